/-! the class's own methods -/
theorem isCol_of {c : Int32} (h : isCol c) : ∃ j : Nat, j < 6 ∧ c = nI j := vp_in_of (isCol_in h) (by decide)
theorem isRow_of {I : Nat → Int32} {n : Nat} {r : Int32} (hn : I 2 = nI n) (hn40 : n ≤ 40) (h : isRow I r) : ∃ j : Nat, j < n ∧ r = nI j := by
  obtain ⟨j, hj, e⟩ := vp_in_of (vpi (n := 40) (i_nlt.mpr h.1) (i_nle.mpr h.2.2) rfl) (by decide)
  refine ⟨j, ?_, e⟩
  have h2 := h.2.1
  rw [e, hn] at h2
  exact (nI_ltI (by omega) (by omega)).mp h2
theorem c_X9_requireColumn {X : XS} {h : AH} {Q : AO → AH → Prop} {c : Int32} (h0 : isCol c → Q (.inl none) h) (h1 : ¬ isCol c → Q (.inr 2) h) : Call X 99 [.int c] h Q := by
  refine call_of (by decide) rfl rfl ?_
  refine a_iload_n (i := 0) q99_0 rfl rfl ?_
  refine a_cs1 q99_1 rfl ⟨rfl, rfl⟩ rfl ?_
  refine c_X9_isColumn ?_
  refine ck_r ?_
  refine a_if_ne (tgt := 18) q99_4 (by decide) (fun zc4 => ?_) (fun zc4 => ?_)
  · skip
    refine a_return q99_18 rfl ?_
    exact h0 (b2i_nz.mp zc4)
  · skip
    refine a_throw q99_7 ⟨by decide, by decide⟩ (by decide) ?_
    exact h1 (b2i_z.mp zc4)

theorem c_X9_requireChannel {X : XS} {h : AH} {Q : AO → AH → Prop} {c : Int32} (h0 : isChan c → Q (.inl none) h) (h1 : ¬ isChan c → Q (.inr 2) h) : Call X 100 [.int c] h Q := by
  refine call_of (by decide) rfl rfl ?_
  refine a_iload_n (i := 0) q100_0 rfl rfl ?_
  refine a_cs1 q100_1 rfl ⟨rfl, rfl⟩ rfl ?_
  refine c_X9_isChannel ?_
  refine ck_r ?_
  refine a_if_ne (tgt := 18) q100_4 (by decide) (fun zc4 => ?_) (fun zc4 => ?_)
  · skip
    refine a_return q100_18 rfl ?_
    exact h0 (b2i_nz.mp zc4)
  · skip
    refine a_throw q100_7 ⟨by decide, by decide⟩ (by decide) ?_
    exact h1 (b2i_z.mp zc4)

theorem c_X9_requirePair {X : XS} {h : AH} {Q : AO → AH → Prop} {c k : Int32} (h0 : isCol c → isChan k → Q (.inl none) h) (h1 : ¬ (isCol c ∧ isChan k) → Q (.inr 2) h) : Call X 101 [.int c, .int k] h Q := by
  refine call_of (by decide) rfl rfl ?_
  refine a_iload_n (i := 0) q101_0 rfl rfl ?_
  refine a_cs1 q101_1 rfl ⟨rfl, rfl⟩ rfl ?_
  refine c_X9_requireColumn (fun zcol => ?_) (fun zn => ck_x rfl (h1 (fun zz => zn zz.1)))
  refine ck_v ?_
  refine a_iload_n (i := 1) q101_4 rfl rfl ?_
  refine a_cs1 q101_5 rfl ⟨rfl, rfl⟩ rfl ?_
  refine c_X9_requireChannel (fun zchan => ?_) (fun zn => ck_x rfl (h1 (fun zz => zn zz.2)))
  refine ck_v ?_
  refine a_return q101_8 rfl ?_
  exact h0 zcol zchan

theorem c_X9_requireRank_1 {X : XS} {I : Nat → Int32} {A : Nat → Nat → Int32} {L : Nat → Nat → Int64} {O : AH} {Q : AO → AH → Prop} {r : Int32} (h0 : isRk (I 7) r → Q (.inl none) (hp I A L O)) (h1 : ¬ isRk (I 7) r → Q (.inr 4) (hp I A L O)) : Call X 102 [.ref 14, .int r] (hp I A L O) Q := by
  refine call_of (by decide) rfl rfl ?_
  refine a_aload_n (i := 0) q102_0 rfl rfl ?_
  refine a_iload_n (i := 1) q102_1 rfl rfl ?_
  refine a_cv1 q102_2 rfl rfl ⟨rfl, rfl⟩ rfl ?_
  refine c_X0_hasRank_1 ?_
  refine ck_r ?_
  refine a_if_ne (tgt := 19) q102_5 (by decide) (fun zc5 => ?_) (fun zc5 => ?_)
  · skip
    refine a_return q102_19 rfl ?_
    exact h0 (b2i_nz.mp zc5)
  · skip
    refine a_throw q102_8 ⟨by decide, by decide⟩ (by decide) ?_
    exact h1 (b2i_z.mp zc5)

theorem c_X9_requireRank_2 {X : XS} {I : Nat → Int32} {A : Nat → Nat → Int32} {L : Nat → Nat → Int64} {O : AH} {Q : AO → AH → Prop} {r : Int32} (h0 : isRk (I 10) r → Q (.inl none) (hp I A L O)) (h1 : ¬ isRk (I 10) r → Q (.inr 4) (hp I A L O)) : Call X 102 [.ref 17, .int r] (hp I A L O) Q := by
  refine call_of (by decide) rfl rfl ?_
  refine a_aload_n (i := 0) q102_0 rfl rfl ?_
  refine a_iload_n (i := 1) q102_1 rfl rfl ?_
  refine a_cv1 q102_2 rfl rfl ⟨rfl, rfl⟩ rfl ?_
  refine c_X0_hasRank_2 ?_
  refine ck_r ?_
  refine a_if_ne (tgt := 19) q102_5 (by decide) (fun zc5 => ?_) (fun zc5 => ?_)
  · skip
    refine a_return q102_19 rfl ?_
    exact h0 (b2i_nz.mp zc5)
  · skip
    refine a_throw q102_8 ⟨by decide, by decide⟩ (by decide) ?_
    exact h1 (b2i_z.mp zc5)

theorem c_X9_addRow {X : XS} {I : Nat → Int32} {A : Nat → Nat → Int32} {L : Nat → Nat → Int64} {O : AH} {Q : AO → AH → Prop} {a b c d e f : Int32} {n : Nat} (hn : I 2 = nI n) (hn40 : n ≤ 40) (h1 : ¬ (isVal a ∧ isVal b ∧ isVal c ∧ isVal d ∧ isVal e ∧ isVal f) → Q (.inr 0) (hp I A L O)) (h2 : (isVal a ∧ isVal b ∧ isVal c ∧ isVal d ∧ isVal e ∧ isVal f) → 40 ≤ n → Q (.inr 1) (hp I A L O)) (h3 : (isVal a ∧ isVal b ∧ isVal c ∧ isVal d ∧ isVal e ∧ isVal f) → n < 40 → Q (.inl (some (.int (nI (n + 1))))) (hp (va_up (va_up I 2 (nI (n + 1))) 6 1) (stA (apA A n a b c d e f) (n + 1) 6) (stL (apA A n a b c d e f) L (n + 1) 6) O)) : Call X 72 [.ref 1, .int a, .int b, .int c, .int d, .int e, .int f] (hp I A L O) Q := by
  refine call_of (by decide) rfl rfl ?_
  refine AW.cut 50 (b2i (isVal a ∧ isVal b ∧ isVal c ∧ isVal d ∧ isVal e ∧ isVal f)) (fun zk50 => ?_) ?_
  · skip
    refine a_iload_n (i := 1) q72_0 rfl rfl ?_
    refine a_cs1 q72_1 rfl ⟨rfl, rfl⟩ rfl ?_
    refine c_X9_isValue ?_
    refine ck_r ?_
    refine a_if_eq (tgt := 49) q72_4 (by decide) (fun zc4 => ?_) (fun zc4 => ?_)
    · skip
      refine a_iconst (v := 0) q72_49 (by decide) ?_
      exact cutv zk50 (b2i_f (p := (isVal a ∧ isVal b ∧ isVal c ∧ isVal d ∧ isVal e ∧ isVal f)) (fun zh => b2i_z.mp zc4 zh.1))
    · skip
      refine a_iload_n (i := 2) q72_7 rfl rfl ?_
      refine a_cs1 q72_8 rfl ⟨rfl, rfl⟩ rfl ?_
      refine c_X9_isValue ?_
      refine ck_r ?_
      refine a_if_eq (tgt := 49) q72_11 (by decide) (fun zc11 => ?_) (fun zc11 => ?_)
      · skip
        refine a_iconst (v := 0) q72_49 (by decide) ?_
        exact cutv zk50 (b2i_f (p := (isVal a ∧ isVal b ∧ isVal c ∧ isVal d ∧ isVal e ∧ isVal f)) (fun zh => b2i_z.mp zc11 zh.2.1))
      · skip
        refine a_iload_n (i := 3) q72_14 rfl rfl ?_
        refine a_cs1 q72_15 rfl ⟨rfl, rfl⟩ rfl ?_
        refine c_X9_isValue ?_
        refine ck_r ?_
        refine a_if_eq (tgt := 49) q72_18 (by decide) (fun zc18 => ?_) (fun zc18 => ?_)
        · skip
          refine a_iconst (v := 0) q72_49 (by decide) ?_
          exact cutv zk50 (b2i_f (p := (isVal a ∧ isVal b ∧ isVal c ∧ isVal d ∧ isVal e ∧ isVal f)) (fun zh => b2i_z.mp zc18 zh.2.2.1))
        · skip
          refine a_iload q72_21 rfl ?_
          refine a_cs1 q72_23 rfl ⟨rfl, rfl⟩ rfl ?_
          refine c_X9_isValue ?_
          refine ck_r ?_
          refine a_if_eq (tgt := 49) q72_26 (by decide) (fun zc26 => ?_) (fun zc26 => ?_)
          · skip
            refine a_iconst (v := 0) q72_49 (by decide) ?_
            exact cutv zk50 (b2i_f (p := (isVal a ∧ isVal b ∧ isVal c ∧ isVal d ∧ isVal e ∧ isVal f)) (fun zh => b2i_z.mp zc26 zh.2.2.2.1))
          · skip
            refine a_iload q72_29 rfl ?_
            refine a_cs1 q72_31 rfl ⟨rfl, rfl⟩ rfl ?_
            refine c_X9_isValue ?_
            refine ck_r ?_
            refine a_if_eq (tgt := 49) q72_34 (by decide) (fun zc34 => ?_) (fun zc34 => ?_)
            · skip
              refine a_iconst (v := 0) q72_49 (by decide) ?_
              exact cutv zk50 (b2i_f (p := (isVal a ∧ isVal b ∧ isVal c ∧ isVal d ∧ isVal e ∧ isVal f)) (fun zh => b2i_z.mp zc34 zh.2.2.2.2.1))
            · skip
              refine a_iload q72_37 rfl ?_
              refine a_cs1 q72_39 rfl ⟨rfl, rfl⟩ rfl ?_
              refine c_X9_isValue ?_
              refine ck_r ?_
              refine a_if_eq (tgt := 49) q72_42 (by decide) (fun zc42 => ?_) (fun zc42 => ?_)
              · skip
                refine a_iconst (v := 0) q72_49 (by decide) ?_
                exact cutv zk50 (b2i_f (p := (isVal a ∧ isVal b ∧ isVal c ∧ isVal d ∧ isVal e ∧ isVal f)) (fun zh => b2i_z.mp zc42 zh.2.2.2.2.2))
              · skip
                refine a_iconst (v := 1) q72_45 (by decide) ?_
                refine a_goto (tgt := 50) q72_46 (by decide) ?_
                exact cutv zk50 (b2i_t (p := (isVal a ∧ isVal b ∧ isVal c ∧ isVal d ∧ isVal e ∧ isVal f)) ⟨b2i_nz.mp zc4, b2i_nz.mp zc11, b2i_nz.mp zc18, b2i_nz.mp zc26, b2i_nz.mp zc34, b2i_nz.mp zc42⟩)
  refine a_istore (i := 7) (lv' := [(0, _), (1, _), (2, _), (3, _), (4, _), (5, _), (6, _), (7, _)]) q72_50 rfl rfl ?_
  refine a_iload q72_52 rfl ?_
  refine a_if_ne (tgt := 67) q72_54 (by decide) (fun zc54 => ?_) (fun zc54 => ?_)
  · skip
    refine a_aload_n (i := 0) q72_67 rfl rfl ?_
    refine a_getfield q72_68 rfl rfl ?_
    refine a_cv0 q72_71 rfl rfl ⟨rfl, rfl⟩ rfl ?_
    refine c_X7_rowCount ?_
    refine ck_r ?_
    refine a_bipush (v := 40) q72_74 (by decide) ?_
    refine a_icmp_lt (tgt := 89) q72_76 (by decide) (fun zc76 => ?_) (fun zc76 => ?_)
    · skip
      have zlt : n < 40 := Nat.lt_of_not_le (fun zh => absurd zc76 (by rw [hn]; exact nI_nlt zh (by omega)))
      refine a_aload_n (i := 0) q72_89 rfl rfl ?_
      refine a_getfield q72_90 rfl rfl ?_
      refine a_iload_n (i := 1) q72_93 rfl rfl ?_
      refine a_iload_n (i := 2) q72_94 rfl rfl ?_
      refine a_iload_n (i := 3) q72_95 rfl rfl ?_
      refine a_iload q72_96 rfl ?_
      refine a_iload q72_98 rfl ?_
      refine a_iload q72_100 rfl ?_
      refine a_cv6 q72_102 rfl rfl ⟨rfl, rfl⟩ rfl ?_
      refine c_X7_append hn zlt ?_
      refine ck_v ?_
      refine a_aload_n (i := 0) q72_105 rfl rfl ?_
      refine a_getfield q72_106 rfl rfl ?_
      refine a_cv0 q72_109 rfl rfl ⟨rfl, rfl⟩ rfl ?_
      refine c_X6_spoil ?_
      refine ck_v ?_
      refine a_aload_n (i := 0) q72_112 rfl rfl ?_
      refine a_getfield q72_113 rfl rfl ?_
      refine a_cv0 q72_116 rfl rfl ⟨rfl, rfl⟩ rfl ?_
      refine c_X7_rowCount ?_
      refine ck_r ?_
      refine a_ireturn q72_119 (nr_int rfl _) ?_
      exact lfi (h3 (b2i_nz.mp zc54) zlt) rfl
    · skip
      refine a_throw q72_79 ⟨by decide, by decide⟩ (by decide) ?_
      exact h2 (b2i_nz.mp zc54) (Nat.le_of_not_lt (fun zh => zc76 (by rw [hn]; exact nI_lt zh (by decide))))
  · skip
    refine a_throw q72_57 ⟨by decide, by decide⟩ (by decide) ?_
    exact h1 (b2i_z.mp zc54)

theorem c_X9_dropRow {X : XS} {I : Nat → Int32} {A : Nat → Nat → Int32} {L : Nat → Nat → Int64} {O : AH} {Q : AO → AH → Prop} {r : Int32} {n : Nat} (hn : I 2 = nI n) (hn40 : n ≤ 40) (h1 : ¬ isRow I r → Q (.inr 2) (hp I A L O)) (h2 : ∀ j m, r = nI j → n = m + 1 → j ≤ m → Q (.inl (some (.int (nI m)))) (hp (va_up (va_up I 2 (nI m)) 6 1) (stA (remT A j (m - j) 6) m 6) (stL (remT A j (m - j) 6) L m 6) O)) : Call X 73 [.ref 1, .int r] (hp I A L O) Q := by
  refine call_of (by decide) rfl rfl ?_
  refine a_aload_n (i := 0) q73_0 rfl rfl ?_
  refine a_getfield q73_1 rfl rfl ?_
  refine a_iload_n (i := 1) q73_4 rfl rfl ?_
  refine a_cv1 q73_5 rfl rfl ⟨rfl, rfl⟩ rfl ?_
  refine c_X7_hasRow ?_
  refine ck_r ?_
  refine a_if_ne (tgt := 21) q73_8 (by decide) (fun zc8 => ?_) (fun zc8 => ?_)
  · skip
    obtain ⟨j, hj, zr⟩ := isRow_of hn hn40 (b2i_nz.mp zc8)
    obtain ⟨m, zm⟩ : ∃ m, n = m + 1 := ⟨n - 1, by omega⟩
    subst zm
    subst zr
    refine a_aload_n (i := 0) q73_21 rfl rfl ?_
    refine a_getfield q73_22 rfl rfl ?_
    refine a_iload_n (i := 1) q73_25 rfl rfl ?_
    refine a_cv1 q73_26 rfl rfl ⟨rfl, rfl⟩ rfl ?_
    refine c_X7_remove hn (by omega) (by omega) ?_
    refine ck_v ?_
    refine a_aload_n (i := 0) q73_29 rfl rfl ?_
    refine a_getfield q73_30 rfl rfl ?_
    refine a_cv0 q73_33 rfl rfl ⟨rfl, rfl⟩ rfl ?_
    refine c_X6_spoil ?_
    refine ck_v ?_
    refine a_aload_n (i := 0) q73_36 rfl rfl ?_
    refine a_getfield q73_37 rfl rfl ?_
    refine a_cv0 q73_40 rfl rfl ⟨rfl, rfl⟩ rfl ?_
    refine c_X7_rowCount ?_
    refine ck_r ?_
    refine a_ireturn q73_43 (nr_int rfl _) ?_
    exact lfi (h2 j m rfl rfl (by omega)) rfl
  · skip
    refine a_throw q73_11 ⟨by decide, by decide⟩ (by decide) ?_
    exact h1 (b2i_z.mp zc8)

theorem c_X9_put {X : XS} {I : Nat → Int32} {A : Nat → Nat → Int32} {L : Nat → Nat → Int64} {O : AH} {Q : AO → AH → Prop} {r c v : Int32} {n : Nat} (hn : I 2 = nI n) (hn40 : n ≤ 40) (h1 : ¬ (isRow I r ∧ isCol c) → Q (.inr 2) (hp I A L O)) (h2 : isRow I r ∧ isCol c → ¬ isVal v → Q (.inr 0) (hp I A L O)) (h3 : ∀ j k, j < n → k < 6 → r = nI j → c = nI k → isVal v → Q (.inl (some (.int (cv A k j)))) (hp (va_up I 6 1) (studyA (st1 A k j v) k n) (studyL (st1 A k j v) L k n) O)) : Call X 74 [.ref 1, .int r, .int c, .int v] (hp I A L O) Q := by
  refine call_of (by decide) rfl rfl ?_
  refine a_aload_n (i := 0) q74_0 rfl rfl ?_
  refine a_getfield q74_1 rfl rfl ?_
  refine a_iload_n (i := 1) q74_4 rfl rfl ?_
  refine a_cv1 q74_5 rfl rfl ⟨rfl, rfl⟩ rfl ?_
  refine c_X7_hasRow ?_
  refine ck_r ?_
  refine a_if_eq (tgt := 18) q74_8 (by decide) (fun zc8 => ?_) (fun zc8 => ?_)
  · skip
    refine a_throw q74_18 ⟨by decide, by decide⟩ (by decide) ?_
    exact h1 (fun zz => b2i_z.mp zc8 zz.1)
  · skip
    refine a_iload_n (i := 2) q74_11 rfl rfl ?_
    refine a_cs1 q74_12 rfl ⟨rfl, rfl⟩ rfl ?_
    refine c_X9_isColumn ?_
    refine ck_r ?_
    refine a_if_ne (tgt := 28) q74_15 (by decide) (fun zc15 => ?_) (fun zc15 => ?_)
    · skip
      refine a_iload_n (i := 3) q74_28 rfl rfl ?_
      refine a_cs1 q74_29 rfl ⟨rfl, rfl⟩ rfl ?_
      refine c_X9_isValue ?_
      refine ck_r ?_
      refine a_if_ne (tgt := 45) q74_32 (by decide) (fun zc32 => ?_) (fun zc32 => ?_)
      · skip
        obtain ⟨j, hj, zr⟩ := isRow_of hn hn40 (b2i_nz.mp zc8)
        obtain ⟨k, hk, zkc⟩ := isCol_of (b2i_nz.mp zc15)
        subst zr
        subst zkc
        refine a_aload_n (i := 0) q74_45 rfl rfl ?_
        refine a_getfield q74_46 rfl rfl ?_
        refine a_iload_n (i := 1) q74_49 rfl rfl ?_
        refine a_iload_n (i := 2) q74_50 rfl rfl ?_
        refine a_cv2 q74_51 rfl rfl ⟨rfl, rfl⟩ rfl ?_
        refine c_X7_valueAt_n hn hn40 hj hk ?_
        refine ck_r ?_
        refine a_istore (i := 4) (lv' := [(0, _), (1, _), (2, _), (3, _), (4, _)]) q74_54 rfl rfl ?_
        refine a_aload_n (i := 0) q74_56 rfl rfl ?_
        refine a_getfield q74_57 rfl rfl ?_
        refine a_iload_n (i := 1) q74_60 rfl rfl ?_
        refine a_iload_n (i := 2) q74_61 rfl rfl ?_
        refine a_iload_n (i := 3) q74_62 rfl rfl ?_
        refine a_cv3 q74_63 rfl rfl ⟨rfl, rfl⟩ rfl ?_
        refine c_X7_change hn hn40 hj hk ?_
        refine ck_v ?_
        refine a_aload_n (i := 0) q74_66 rfl rfl ?_
        refine a_getfield q74_67 rfl rfl ?_
        refine a_cv0 q74_70 rfl rfl ⟨rfl, rfl⟩ rfl ?_
        refine c_X6_spoil ?_
        refine ck_v ?_
        refine a_iload q74_73 rfl ?_
        refine a_ireturn q74_75 (nr_int rfl _) ?_
        exact h3 j k hj hk rfl rfl (b2i_nz.mp zc32)
      · skip
        refine a_throw q74_35 ⟨by decide, by decide⟩ (by decide) ?_
        exact h2 ⟨b2i_nz.mp zc8, b2i_nz.mp zc15⟩ (b2i_z.mp zc32)
    · skip
      refine a_throw q74_18 ⟨by decide, by decide⟩ (by decide) ?_
      exact h1 (fun zz => b2i_z.mp zc15 zz.2)

theorem c_X9_rows {X : XS} {I : Nat → Int32} {A : Nat → Nat → Int32} {L : Nat → Nat → Int64} {O : AH} {Q : AO → AH → Prop}  (hq : Q (.inl (some (.int (I 2)))) (hp I A L O)) : Call X 75 [.ref 1] (hp I A L O) Q := by
  refine call_of (by decide) rfl rfl ?_
  refine a_aload_n (i := 0) q75_0 rfl rfl ?_
  refine a_getfield q75_1 rfl rfl ?_
  refine a_cv0 q75_4 rfl rfl ⟨rfl, rfl⟩ rfl ?_
  refine c_X7_rowCount ?_
  refine ck_r ?_
  refine a_ireturn q75_7 (nr_int rfl _) ?_
  exact hq

theorem c_X9_different {X : XS} {I : Nat → Int32} {A : Nat → Nat → Int32} {L : Nat → Nat → Int64} {O : AH} {Q : AO → AH → Prop} {c : Int32} (h0 : isCol c → Q (.inl (some (.int (f_differentIn A c)))) (hp I A L O)) (h1 : ¬ isCol c → Q (.inr 2) (hp I A L O)) : Call X 76 [.ref 1, .int c] (hp I A L O) Q := by
  refine call_of (by decide) rfl rfl ?_
  refine a_iload_n (i := 1) q76_0 rfl rfl ?_
  refine a_cs1 q76_1 rfl ⟨rfl, rfl⟩ rfl ?_
  refine c_X9_requireColumn (fun zcol => ?_) (fun zn => ck_x rfl (h1 zn))
  refine ck_v ?_
  refine a_aload_n (i := 0) q76_4 rfl rfl ?_
  refine a_getfield q76_5 rfl rfl ?_
  refine a_iload_n (i := 1) q76_8 rfl rfl ?_
  refine a_cv1 q76_9 rfl rfl ⟨rfl, rfl⟩ rfl ?_
  refine c_X7_differentIn ?_
  refine ck_r ?_
  refine a_ireturn q76_12 (nr_int rfl _) ?_
  exact h0 zcol

theorem c_X9_sumOf {X : XS} {I : Nat → Int32} {A : Nat → Nat → Int32} {L : Nat → Nat → Int64} {O : AH} {Q : AO → AH → Prop} {c : Int32} (h0 : isCol c → Q (.inl (some (.long (f_sumIn L c)))) (hp I A L O)) (h1 : ¬ isCol c → Q (.inr 2) (hp I A L O)) : Call X 77 [.ref 1, .int c] (hp I A L O) Q := by
  refine call_of (by decide) rfl rfl ?_
  refine a_iload_n (i := 1) q77_0 rfl rfl ?_
  refine a_cs1 q77_1 rfl ⟨rfl, rfl⟩ rfl ?_
  refine c_X9_requireColumn (fun zcol => ?_) (fun zn => ck_x rfl (h1 zn))
  refine ck_v ?_
  refine a_aload_n (i := 0) q77_4 rfl rfl ?_
  refine a_getfield q77_5 rfl rfl ?_
  refine a_iload_n (i := 1) q77_8 rfl rfl ?_
  refine a_cv1 q77_9 rfl rfl ⟨rfl, rfl⟩ rfl ?_
  refine c_X7_sumIn ?_
  refine ck_r ?_
  refine a_lreturn q77_12 rfl ?_
  exact h0 zcol

theorem c_X9_kindOf {X : XS} {I : Nat → Int32} {A : Nat → Nat → Int32} {L : Nat → Nat → Int64} {O : AH} {Q : AO → AH → Prop} {c : Int32} (h0 : isCol c → Q (.inl (some (.int (f_kindAt A c)))) (hp I A L O)) (h1 : ¬ isCol c → Q (.inr 2) (hp I A L O)) : Call X 80 [.ref 1, .int c] (hp I A L O) Q := by
  refine call_of (by decide) rfl rfl ?_
  refine a_iload_n (i := 1) q80_0 rfl rfl ?_
  refine a_cs1 q80_1 rfl ⟨rfl, rfl⟩ rfl ?_
  refine c_X9_requireColumn (fun zcol => ?_) (fun zn => ck_x rfl (h1 zn))
  refine ck_v ?_
  refine a_aload_n (i := 0) q80_4 rfl rfl ?_
  refine a_getfield q80_5 rfl rfl ?_
  refine a_iload_n (i := 1) q80_8 rfl rfl ?_
  refine a_cv1 q80_9 rfl rfl ⟨rfl, rfl⟩ rfl ?_
  refine c_X7_kindAt ?_
  refine ck_r ?_
  refine a_ireturn q80_12 (nr_int rfl _) ?_
  exact h0 zcol

theorem c_X9_force {X : XS} {I : Nat → Int32} {A : Nat → Nat → Int32} {L : Nat → Nat → Int64} {O : AH} {Q : AO → AH → Prop} {c k : Int32} {n : Nat} (hn : I 2 = nI n) (hn40 : n ≤ 40) (h1 : ¬ isCol c → Q (.inr 2) (hp I A L O)) (h2 : isCol c → ¬ (k = 2 ∨ k = 3 ∨ k = 4) → Q (.inr 0) (hp I A L O)) (h3 : ∀ j, j < 6 → c = nI j → (k = 2 ∨ k = 3 ∨ k = 4) → Q (.inl (some (.int (studyA (va_up A 3 (upd (A 3) j k)) j n 4 j)))) (hp (va_up I 6 1) (studyA (va_up A 3 (upd (A 3) j k)) j n) (studyL (va_up A 3 (upd (A 3) j k)) L j n) O)) : Call X 81 [.ref 1, .int c, .int k] (hp I A L O) Q := by
  refine call_of (by decide) rfl rfl ?_
  refine a_iload_n (i := 1) q81_0 rfl rfl ?_
  refine a_cs1 q81_1 rfl ⟨rfl, rfl⟩ rfl ?_
  refine c_X9_requireColumn (fun zcol => ?_) (fun zn => ck_x rfl (h1 zn))
  refine ck_v ?_
  refine a_iload_n (i := 2) q81_4 rfl rfl ?_
  refine a_iconst (v := 2) q81_5 (by decide) ?_
  refine a_icmp_eq (tgt := 29) q81_6 (by decide) (fun zc6 => ?_) (fun zc6 => ?_)
  · skip
    obtain ⟨j, hj, zr⟩ := isCol_of zcol
    subst zr
    refine a_aload_n (i := 0) q81_29 rfl rfl ?_
    refine a_getfield q81_30 rfl rfl ?_
    refine a_iload_n (i := 1) q81_33 rfl rfl ?_
    refine a_iload_n (i := 2) q81_34 rfl rfl ?_
    refine a_cv2 q81_35 rfl rfl ⟨rfl, rfl⟩ rfl ?_
    refine c_X7_setForcedKind hn hn40 hj ?_
    refine ck_v ?_
    refine a_aload_n (i := 0) q81_38 rfl rfl ?_
    refine a_getfield q81_39 rfl rfl ?_
    refine a_cv0 q81_42 rfl rfl ⟨rfl, rfl⟩ rfl ?_
    refine c_X6_spoil ?_
    refine ck_v ?_
    refine a_aload_n (i := 0) q81_45 rfl rfl ?_
    refine a_getfield q81_46 rfl rfl ?_
    refine a_iload_n (i := 1) q81_49 rfl rfl ?_
    refine a_cv1 q81_50 rfl rfl ⟨rfl, rfl⟩ rfl ?_
    refine c_X7_kindAt ?_
    refine ck_r ?_
    refine a_ireturn q81_53 (nr_int rfl _) ?_
    exact lfi (h3 j hj rfl (by simp [zc6])) (by rw [f_kindAt, if_pos (isCol_n hj), nI_cl (n := 6) hj (by decide)])
  · skip
    refine a_iload_n (i := 2) q81_9 rfl rfl ?_
    refine a_iconst (v := 3) q81_10 (by decide) ?_
    refine a_icmp_eq (tgt := 29) q81_11 (by decide) (fun zc11 => ?_) (fun zc11 => ?_)
    · skip
      obtain ⟨j, hj, zr⟩ := isCol_of zcol
      subst zr
      refine a_aload_n (i := 0) q81_29 rfl rfl ?_
      refine a_getfield q81_30 rfl rfl ?_
      refine a_iload_n (i := 1) q81_33 rfl rfl ?_
      refine a_iload_n (i := 2) q81_34 rfl rfl ?_
      refine a_cv2 q81_35 rfl rfl ⟨rfl, rfl⟩ rfl ?_
      refine c_X7_setForcedKind hn hn40 hj ?_
      refine ck_v ?_
      refine a_aload_n (i := 0) q81_38 rfl rfl ?_
      refine a_getfield q81_39 rfl rfl ?_
      refine a_cv0 q81_42 rfl rfl ⟨rfl, rfl⟩ rfl ?_
      refine c_X6_spoil ?_
      refine ck_v ?_
      refine a_aload_n (i := 0) q81_45 rfl rfl ?_
      refine a_getfield q81_46 rfl rfl ?_
      refine a_iload_n (i := 1) q81_49 rfl rfl ?_
      refine a_cv1 q81_50 rfl rfl ⟨rfl, rfl⟩ rfl ?_
      refine c_X7_kindAt ?_
      refine ck_r ?_
      refine a_ireturn q81_53 (nr_int rfl _) ?_
      exact lfi (h3 j hj rfl (by simp [zc11])) (by rw [f_kindAt, if_pos (isCol_n hj), nI_cl (n := 6) hj (by decide)])
    · skip
      refine a_iload_n (i := 2) q81_14 rfl rfl ?_
      refine a_iconst (v := 4) q81_15 (by decide) ?_
      refine a_icmp_eq (tgt := 29) q81_16 (by decide) (fun zc16 => ?_) (fun zc16 => ?_)
      · skip
        obtain ⟨j, hj, zr⟩ := isCol_of zcol
        subst zr
        refine a_aload_n (i := 0) q81_29 rfl rfl ?_
        refine a_getfield q81_30 rfl rfl ?_
        refine a_iload_n (i := 1) q81_33 rfl rfl ?_
        refine a_iload_n (i := 2) q81_34 rfl rfl ?_
        refine a_cv2 q81_35 rfl rfl ⟨rfl, rfl⟩ rfl ?_
        refine c_X7_setForcedKind hn hn40 hj ?_
        refine ck_v ?_
        refine a_aload_n (i := 0) q81_38 rfl rfl ?_
        refine a_getfield q81_39 rfl rfl ?_
        refine a_cv0 q81_42 rfl rfl ⟨rfl, rfl⟩ rfl ?_
        refine c_X6_spoil ?_
        refine ck_v ?_
        refine a_aload_n (i := 0) q81_45 rfl rfl ?_
        refine a_getfield q81_46 rfl rfl ?_
        refine a_iload_n (i := 1) q81_49 rfl rfl ?_
        refine a_cv1 q81_50 rfl rfl ⟨rfl, rfl⟩ rfl ?_
        refine c_X7_kindAt ?_
        refine ck_r ?_
        refine a_ireturn q81_53 (nr_int rfl _) ?_
        exact lfi (h3 j hj rfl (by simp [zc16])) (by rw [f_kindAt, if_pos (isCol_n hj), nI_cl (n := 6) hj (by decide)])
      · skip
        refine a_throw q81_19 ⟨by decide, by decide⟩ (by decide) ?_
        exact h2 zcol (by simp [zc6, zc11, zc16])

theorem f_forced_n {A : Nat → Nat → Int32} {j : Nat} (hj : j < 6) : f_forcedKindAt A (nI j) = A 3 j := by rw [f_forcedKindAt, if_pos (isCol_n hj), nI_cl (n := 6) hj (by decide)]
theorem c_X9_unforce {X : XS} {I : Nat → Int32} {A : Nat → Nat → Int32} {L : Nat → Nat → Int64} {O : AH} {Q : AO → AH → Prop} {c : Int32} {n : Nat} (hn : I 2 = nI n) (hn40 : n ≤ 40) (h1 : ¬ isCol c → Q (.inr 2) (hp I A L O)) (h2 : ∀ j, j < 6 → c = nI j → A 3 j = -1 → Q (.inr 1) (hp I A L O)) (h3 : ∀ j, j < 6 → c = nI j → ¬ A 3 j = -1 → Q (.inl (some (.int (studyA (va_up A 3 (upd (A 3) j (-1))) j n 4 j)))) (hp (va_up I 6 1) (studyA (va_up A 3 (upd (A 3) j (-1))) j n) (studyL (va_up A 3 (upd (A 3) j (-1))) L j n) O)) : Call X 82 [.ref 1, .int c] (hp I A L O) Q := by
  refine call_of (by decide) rfl rfl ?_
  refine a_iload_n (i := 1) q82_0 rfl rfl ?_
  refine a_cs1 q82_1 rfl ⟨rfl, rfl⟩ rfl ?_
  refine c_X9_requireColumn (fun zcol => ?_) (fun zn => ck_x rfl (h1 zn))
  refine ck_v ?_
  obtain ⟨j, hj, zr⟩ := isCol_of zcol
  subst zr
  refine a_aload_n (i := 0) q82_4 rfl rfl ?_
  refine a_getfield q82_5 rfl rfl ?_
  refine a_iload_n (i := 1) q82_8 rfl rfl ?_
  refine a_cv1 q82_9 rfl rfl ⟨rfl, rfl⟩ rfl ?_
  refine c_X7_forcedKindAt ?_
  refine ck_r ?_
  refine a_iconst (v := (-1)) q82_12 (by decide) ?_
  refine a_icmp_ne (tgt := 26) q82_13 (by decide) (fun zc13 => ?_) (fun zc13 => ?_)
  · skip
    refine a_aload_n (i := 0) q82_26 rfl rfl ?_
    refine a_getfield q82_27 rfl rfl ?_
    refine a_iload_n (i := 1) q82_30 rfl rfl ?_
    refine a_iconst (v := (-1)) q82_31 (by decide) ?_
    refine a_cv2 q82_32 rfl rfl ⟨rfl, rfl⟩ rfl ?_
    refine c_X7_setForcedKind hn hn40 hj ?_
    refine ck_v ?_
    refine a_aload_n (i := 0) q82_35 rfl rfl ?_
    refine a_getfield q82_36 rfl rfl ?_
    refine a_cv0 q82_39 rfl rfl ⟨rfl, rfl⟩ rfl ?_
    refine c_X6_spoil ?_
    refine ck_v ?_
    refine a_aload_n (i := 0) q82_42 rfl rfl ?_
    refine a_getfield q82_43 rfl rfl ?_
    refine a_iload_n (i := 1) q82_46 rfl rfl ?_
    refine a_cv1 q82_47 rfl rfl ⟨rfl, rfl⟩ rfl ?_
    refine c_X7_kindAt ?_
    refine ck_r ?_
    refine a_ireturn q82_50 (nr_int rfl _) ?_
    exact lfi (h3 j hj rfl (by rw [f_forced_n hj] at zc13; exact zc13)) (by rw [f_kindAt, if_pos (isCol_n hj), nI_cl (n := 6) hj (by decide)])
  · skip
    refine a_throw q82_16 ⟨by decide, by decide⟩ (by decide) ?_
    exact h2 j hj rfl (by rw [f_forced_n hj] at zc13; exact zc13)

theorem c_X9_wish {X : XS} {I : Nat → Int32} {A : Nat → Nat → Int32} {L : Nat → Nat → Int64} {O : AH} {Q : AO → AH → Prop} {c z : Int32} (h1 : ¬ isCol c → Q (.inr 2) (hp I A L O)) (h0 : isCol c → Q (.inl (some (.int (g_bc (g_wish (I 3) c z))))) (hp (va_up (va_up I 6 1) 3 (g_wish (I 3) c z)) A L O)) : Call X 83 [.ref 1, .int c, .int z] (hp I A L O) Q := by
  refine call_of (by decide) rfl rfl ?_
  refine a_iload_n (i := 1) q83_0 rfl rfl ?_
  refine a_cs1 q83_1 rfl ⟨rfl, rfl⟩ rfl ?_
  refine c_X9_requireColumn (fun zcol => ?_) (fun zn => ck_x rfl (h1 zn))
  refine ck_v ?_
  refine a_aload_n (i := 0) q83_4 rfl rfl ?_
  refine a_getfield q83_5 rfl rfl ?_
  refine a_cv0 q83_8 rfl rfl ⟨rfl, rfl⟩ rfl ?_
  refine c_X6_spoil ?_
  refine ck_v ?_
  refine a_aload_n (i := 0) q83_11 rfl rfl ?_
  refine a_getfield q83_12 rfl rfl ?_
  refine a_iload_n (i := 1) q83_15 rfl rfl ?_
  refine a_iload_n (i := 2) q83_16 rfl rfl ?_
  refine a_cv2 q83_17 rfl rfl ⟨rfl, rfl⟩ rfl ?_
  refine c_X3_wishColumn ?_
  refine ck_r ?_
  refine a_ireturn q83_20 (nr_int rfl _) ?_
  exact h0 zcol

theorem c_X9_wishMark {X : XS} {I : Nat → Int32} {A : Nat → Nat → Int32} {L : Nat → Nat → Int64} {O : AH} {Q : AO → AH → Prop} {m : Int32} (hm : narrow .char (.int m) = .int m) (hf : fits .char (.int m) = true) (hn4 : narrow .char (.int (I 4)) = .int (I 4)) (h1 : ¬ isMk m → ¬ m = 45 → Q (.inr 0) (hp I A L O)) (h0 : (isMk m ∨ m = 45) → Q (.inl (some (.int (I 4)))) (hp (va_up (va_up I 6 1) 4 m) A L O)) : Call X 84 [.ref 1, .int m] (hp I A L O) Q := by
  refine call_of (by decide) rfl rfl ?_
  refine a_iload_n (i := 1) q84_0 rfl rfl ?_
  refine a_cs1 q84_1 rfl ⟨rfl, rfl⟩ rfl ?_
  refine c_X9_isMark ?_
  refine ck_r ?_
  refine a_if_ne (tgt := 23) q84_4 (by decide) (fun zc4 => ?_) (fun zc4 => ?_)
  · skip
    refine a_aload_n (i := 0) q84_23 rfl rfl ?_
    refine a_getfield q84_24 rfl rfl ?_
    refine a_cv0 q84_27 rfl rfl ⟨rfl, rfl⟩ rfl ?_
    refine c_X6_spoil ?_
    refine ck_v ?_
    refine a_aload_n (i := 0) q84_30 rfl rfl ?_
    refine a_getfield q84_31 rfl rfl ?_
    refine a_iload_n (i := 1) q84_34 rfl rfl ?_
    refine a_cv1 q84_35 rfl rfl ⟨rfl, rfl⟩ rfl ?_
    refine c_X3_exchangeWishedMark hm hf hn4 ?_
    refine ck_r ?_
    refine a_ireturn q84_38 (nr_char rfl hn4) ?_
    exact h0 (Or.inl (b2i_nz.mp zc4))
  · skip
    refine a_iload_n (i := 1) q84_7 rfl rfl ?_
    refine a_bipush (v := 45) q84_8 (by decide) ?_
    refine a_icmp_eq (tgt := 23) q84_10 (by decide) (fun zc10 => ?_) (fun zc10 => ?_)
    · skip
      refine a_aload_n (i := 0) q84_23 rfl rfl ?_
      refine a_getfield q84_24 rfl rfl ?_
      refine a_cv0 q84_27 rfl rfl ⟨rfl, rfl⟩ rfl ?_
      refine c_X6_spoil ?_
      refine ck_v ?_
      refine a_aload_n (i := 0) q84_30 rfl rfl ?_
      refine a_getfield q84_31 rfl rfl ?_
      refine a_iload_n (i := 1) q84_34 rfl rfl ?_
      refine a_cv1 q84_35 rfl rfl ⟨rfl, rfl⟩ rfl ?_
      refine c_X3_exchangeWishedMark hm hf hn4 ?_
      refine ck_r ?_
      refine a_ireturn q84_38 (nr_char rfl hn4) ?_
      exact h0 (Or.inr zc10)
    · skip
      refine a_throw q84_13 ⟨by decide, by decide⟩ (by decide) ?_
      exact h1 (b2i_z.mp zc4) zc10

theorem c_X9_forbid {X : XS} {I : Nat → Int32} {A : Nat → Nat → Int32} {L : Nat → Nat → Int64} {O : AH} {Q : AO → AH → Prop} {c k : Int32} (h1 : ¬ (isCol c ∧ isChan k) → Q (.inr 2) (hp I A L O)) (h2 : isCol c → isChan k → f_forb I c k → Q (.inr 1) (hp I A L O)) (h3 : isCol c → isChan k → ¬ f_forb I c k → Q (.inl (some (.int (g_bc (g_turn (I 5) c k))))) (hp (va_up (va_up I 6 1) 5 (g_turn (I 5) c k)) A L O)) : Call X 85 [.ref 1, .int c, .int k] (hp I A L O) Q := by
  refine call_of (by decide) rfl rfl ?_
  refine a_iload_n (i := 1) q85_0 rfl rfl ?_
  refine a_iload_n (i := 2) q85_1 rfl rfl ?_
  refine a_cs2 q85_2 rfl ⟨rfl, rfl⟩ rfl ?_
  refine c_X9_requirePair (fun zcol zchan => ?_) (fun zn => ck_x rfl (h1 zn))
  refine ck_v ?_
  refine a_aload_n (i := 0) q85_5 rfl rfl ?_
  refine a_getfield q85_6 rfl rfl ?_
  refine a_iload_n (i := 1) q85_9 rfl rfl ?_
  refine a_iload_n (i := 2) q85_10 rfl rfl ?_
  refine a_cv2 q85_11 rfl rfl ⟨rfl, rfl⟩ rfl ?_
  refine c_X3_isForbidden ?_
  refine ck_r ?_
  refine a_if_eq (tgt := 27) q85_14 (by decide) (fun zc14 => ?_) (fun zc14 => ?_)
  · skip
    refine a_aload_n (i := 0) q85_27 rfl rfl ?_
    refine a_getfield q85_28 rfl rfl ?_
    refine a_cv0 q85_31 rfl rfl ⟨rfl, rfl⟩ rfl ?_
    refine c_X6_spoil ?_
    refine ck_v ?_
    refine a_aload_n (i := 0) q85_34 rfl rfl ?_
    refine a_getfield q85_35 rfl rfl ?_
    refine a_iload_n (i := 1) q85_38 rfl rfl ?_
    refine a_iload_n (i := 2) q85_39 rfl rfl ?_
    refine a_cv2 q85_40 rfl rfl ⟨rfl, rfl⟩ rfl ?_
    refine c_X3_turnForbidden ?_
    refine ck_r ?_
    refine a_ireturn q85_43 (nr_int rfl _) ?_
    exact h3 zcol zchan (b2i_z.mp zc14)
  · skip
    refine a_throw q85_17 ⟨by decide, by decide⟩ (by decide) ?_
    exact h2 zcol zchan (b2i_nz.mp zc14)

theorem c_X9_allow {X : XS} {I : Nat → Int32} {A : Nat → Nat → Int32} {L : Nat → Nat → Int64} {O : AH} {Q : AO → AH → Prop} {c k : Int32} (h1 : ¬ (isCol c ∧ isChan k) → Q (.inr 2) (hp I A L O)) (h2 : isCol c → isChan k → ¬ f_forb I c k → Q (.inr 1) (hp I A L O)) (h3 : isCol c → isChan k → f_forb I c k → Q (.inl (some (.int (g_bc (g_turn (I 5) c k))))) (hp (va_up (va_up I 6 1) 5 (g_turn (I 5) c k)) A L O)) : Call X 86 [.ref 1, .int c, .int k] (hp I A L O) Q := by
  refine call_of (by decide) rfl rfl ?_
  refine a_iload_n (i := 1) q86_0 rfl rfl ?_
  refine a_iload_n (i := 2) q86_1 rfl rfl ?_
  refine a_cs2 q86_2 rfl ⟨rfl, rfl⟩ rfl ?_
  refine c_X9_requirePair (fun zcol zchan => ?_) (fun zn => ck_x rfl (h1 zn))
  refine ck_v ?_
  refine a_aload_n (i := 0) q86_5 rfl rfl ?_
  refine a_getfield q86_6 rfl rfl ?_
  refine a_iload_n (i := 1) q86_9 rfl rfl ?_
  refine a_iload_n (i := 2) q86_10 rfl rfl ?_
  refine a_cv2 q86_11 rfl rfl ⟨rfl, rfl⟩ rfl ?_
  refine c_X3_isForbidden ?_
  refine ck_r ?_
  refine a_if_ne (tgt := 27) q86_14 (by decide) (fun zc14 => ?_) (fun zc14 => ?_)
  · skip
    refine a_aload_n (i := 0) q86_27 rfl rfl ?_
    refine a_getfield q86_28 rfl rfl ?_
    refine a_cv0 q86_31 rfl rfl ⟨rfl, rfl⟩ rfl ?_
    refine c_X6_spoil ?_
    refine ck_v ?_
    refine a_aload_n (i := 0) q86_34 rfl rfl ?_
    refine a_getfield q86_35 rfl rfl ?_
    refine a_iload_n (i := 1) q86_38 rfl rfl ?_
    refine a_iload_n (i := 2) q86_39 rfl rfl ?_
    refine a_cv2 q86_40 rfl rfl ⟨rfl, rfl⟩ rfl ?_
    refine c_X3_turnForbidden ?_
    refine ck_r ?_
    refine a_ireturn q86_43 (nr_int rfl _) ?_
    exact h3 zcol zchan (b2i_nz.mp zc14)
  · skip
    refine a_throw q86_17 ⟨by decide, by decide⟩ (by decide) ?_
    exact h2 zcol zchan (b2i_z.mp zc14)

theorem isRule_of {c : Int32} (h : isRule c) : ∃ j : Nat, j < 8 ∧ c = nI j := vp_in_of (vpi (n := 8) (i_nlt.mpr h.1) (i_nle.mpr h.2) rfl) (by decide)
theorem c_X9_setWeight {X : XS} {I : Nat → Int32} {A : Nat → Nat → Int32} {L : Nat → Nat → Int64} {O : AH} {Q : AO → AH → Prop} {r w : Int32} (h1 : ¬ isRule r → Q (.inr 2) (hp I A L O)) (h2 : isRule r → ¬ (0 ≤ w ∧ w ≤ 99) → Q (.inr 0) (hp I A L O)) (h3 : ∀ j, j < 8 → r = nI j → (0 ≤ w ∧ w ≤ 99) → Q (.inl (some (.int (A 11 j)))) (hp (va_up I 6 1) (va_up A 11 (upd (A 11) j w)) L O)) : Call X 87 [.ref 1, .int r, .int w] (hp I A L O) Q := by
  refine call_of (by decide) rfl rfl ?_
  refine a_aload_n (i := 0) q87_0 rfl rfl ?_
  refine a_getfield q87_1 rfl rfl ?_
  refine a_iload_n (i := 1) q87_4 rfl rfl ?_
  refine a_cv1 q87_5 rfl rfl ⟨rfl, rfl⟩ rfl ?_
  refine c_X2_hasRule ?_
  refine ck_r ?_
  refine a_if_ne (tgt := 21) q87_8 (by decide) (fun zc8 => ?_) (fun zc8 => ?_)
  · skip
    refine a_iload_n (i := 2) q87_21 rfl rfl ?_
    refine a_if_lt (tgt := 31) q87_22 (by decide) (fun zc22 => ?_) (fun zc22 => ?_)
    · skip
      refine a_throw q87_31 ⟨by decide, by decide⟩ (by decide) ?_
      exact h2 (b2i_nz.mp zc8) (fun zz => absurd zz.1 (i_nle.mpr zc22))
    · skip
      refine a_iload_n (i := 2) q87_25 rfl rfl ?_
      refine a_bipush (v := 99) q87_26 (by decide) ?_
      refine a_icmp_le (tgt := 41) q87_28 (by decide) (fun zc28 => ?_) (fun zc28 => ?_)
      · skip
        obtain ⟨j, hj, zr⟩ := isRule_of (b2i_nz.mp zc8)
        subst zr
        refine a_aload_n (i := 0) q87_41 rfl rfl ?_
        refine a_getfield q87_42 rfl rfl ?_
        refine a_cv0 q87_45 rfl rfl ⟨rfl, rfl⟩ rfl ?_
        refine c_X6_spoil ?_
        refine ck_v ?_
        refine a_aload_n (i := 0) q87_48 rfl rfl ?_
        refine a_getfield q87_49 rfl rfl ?_
        refine a_iload_n (i := 1) q87_52 rfl rfl ?_
        refine a_iload_n (i := 2) q87_53 rfl rfl ?_
        refine a_cv2 q87_54 rfl rfl ⟨rfl, rfl⟩ rfl ?_
        refine c_X2_exchangeWeight hj ?_
        refine ck_r ?_
        refine a_ireturn q87_57 (nr_int rfl _) ?_
        exact h3 j hj rfl ⟨i_nlt.mp zc22, zc28⟩
      · skip
        refine a_throw q87_31 ⟨by decide, by decide⟩ (by decide) ?_
        exact h2 (b2i_nz.mp zc8) (fun zz => zc28 zz.2)
  · skip
    refine a_throw q87_11 ⟨by decide, by decide⟩ (by decide) ?_
    exact h1 (b2i_z.mp zc8)
