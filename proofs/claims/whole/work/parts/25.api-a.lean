/-! the class's own methods -/
theorem isCol_of {c : Int32} (h : isCol c) : ∃ j : Nat, j < 6 ∧ c = nI j := vp_in_of (isCol_in h) (by decide)
theorem isRow_of {I : Nat → Int32} {n : Nat} {r : Int32} (hn : I 2 = nI n) (hn40 : n ≤ 40) (h : isRow I r) : ∃ j : Nat, j < n ∧ r = nI j := by
  obtain ⟨j, hj, e⟩ := vp_in_of (vpi (n := 40) (i_nlt.mpr h.1) (i_nle.mpr h.2.2) rfl) (by decide)
  refine ⟨j, ?_, e⟩
  have h2 := h.2.1
  rw [e, hn] at h2
  exact (nI_ltI (by omega) (by omega)).mp h2
theorem c_X9_requireColumn {X : XS} {h : AH} {Q : AO → AH → Prop} {c : Int32} (h0 : isCol c → Q (.inl none) h) (h1 : ¬ isCol c → Q (.inr 2) h) : Call X 124 [.int c] h Q := by
  refine call_of (by decide) rfl rfl ?_
  refine a_iload_n (i := 0) q124_0 rfl rfl ?_
  refine a_cs1 q124_1 rfl ⟨rfl, rfl⟩ rfl ?_
  refine c_X9_isColumn ?_
  refine ck_r ?_
  refine a_if_ne (tgt := 18) q124_4 (by decide) (fun zc4 => ?_) (fun zc4 => ?_)
  · skip
    refine a_return q124_18 rfl ?_
    exact h0 (b2i_nz.mp zc4)
  · skip
    refine a_throw q124_7 ⟨by decide, by decide⟩ (by decide) ?_
    exact h1 (b2i_z.mp zc4)

theorem c_X9_requireChannel {X : XS} {h : AH} {Q : AO → AH → Prop} {c : Int32} (h0 : isChan c → Q (.inl none) h) (h1 : ¬ isChan c → Q (.inr 2) h) : Call X 125 [.int c] h Q := by
  refine call_of (by decide) rfl rfl ?_
  refine a_iload_n (i := 0) q125_0 rfl rfl ?_
  refine a_cs1 q125_1 rfl ⟨rfl, rfl⟩ rfl ?_
  refine c_X9_isChannel ?_
  refine ck_r ?_
  refine a_if_ne (tgt := 18) q125_4 (by decide) (fun zc4 => ?_) (fun zc4 => ?_)
  · skip
    refine a_return q125_18 rfl ?_
    exact h0 (b2i_nz.mp zc4)
  · skip
    refine a_throw q125_7 ⟨by decide, by decide⟩ (by decide) ?_
    exact h1 (b2i_z.mp zc4)

theorem c_X9_requirePair {X : XS} {h : AH} {Q : AO → AH → Prop} {c k : Int32} (h0 : isCol c → isChan k → Q (.inl none) h) (h1 : ¬ (isCol c ∧ isChan k) → Q (.inr 2) h) : Call X 126 [.int c, .int k] h Q := by
  refine call_of (by decide) rfl rfl ?_
  refine a_iload_n (i := 0) q126_0 rfl rfl ?_
  refine a_cs1 q126_1 rfl ⟨rfl, rfl⟩ rfl ?_
  refine c_X9_requireColumn (fun zcol => ?_) (fun zn => ck_x rfl (h1 (fun zz => zn zz.1)))
  refine ck_v ?_
  refine a_iload_n (i := 1) q126_4 rfl rfl ?_
  refine a_cs1 q126_5 rfl ⟨rfl, rfl⟩ rfl ?_
  refine c_X9_requireChannel (fun zchan => ?_) (fun zn => ck_x rfl (h1 (fun zz => zn zz.2)))
  refine ck_v ?_
  refine a_return q126_8 rfl ?_
  exact h0 zcol zchan

theorem c_X9_requireRank_1 {X : XS} {I : Nat → Int32} {A : Nat → Nat → Int32} {L : Nat → Nat → Int64} {O : Nat → UInt64} {Q : AO → AH → Prop} {r : Int32} (h0 : isRk (I 7) r → Q (.inl none) (hp I A L O)) (h1 : ¬ isRk (I 7) r → Q (.inr 4) (hp I A L O)) : Call X 127 [.ref 13, .int r] (hp I A L O) Q := by
  refine call_of (by decide) rfl rfl ?_
  refine a_aload_n (i := 0) q127_0 rfl rfl ?_
  refine a_iload_n (i := 1) q127_1 rfl rfl ?_
  refine a_cv1 q127_2 rfl rfl ⟨rfl, rfl⟩ rfl ?_
  refine c_X0_hasRank_1 ?_
  refine ck_r ?_
  refine a_if_ne (tgt := 19) q127_5 (by decide) (fun zc5 => ?_) (fun zc5 => ?_)
  · skip
    refine a_return q127_19 rfl ?_
    exact h0 (b2i_nz.mp zc5)
  · skip
    refine a_throw q127_8 ⟨by decide, by decide⟩ (by decide) ?_
    exact h1 (b2i_z.mp zc5)

theorem c_X9_requireRank_2 {X : XS} {I : Nat → Int32} {A : Nat → Nat → Int32} {L : Nat → Nat → Int64} {O : Nat → UInt64} {Q : AO → AH → Prop} {r : Int32} (h0 : isRk (I 10) r → Q (.inl none) (hp I A L O)) (h1 : ¬ isRk (I 10) r → Q (.inr 4) (hp I A L O)) : Call X 127 [.ref 16, .int r] (hp I A L O) Q := by
  refine call_of (by decide) rfl rfl ?_
  refine a_aload_n (i := 0) q127_0 rfl rfl ?_
  refine a_iload_n (i := 1) q127_1 rfl rfl ?_
  refine a_cv1 q127_2 rfl rfl ⟨rfl, rfl⟩ rfl ?_
  refine c_X0_hasRank_2 ?_
  refine ck_r ?_
  refine a_if_ne (tgt := 19) q127_5 (by decide) (fun zc5 => ?_) (fun zc5 => ?_)
  · skip
    refine a_return q127_19 rfl ?_
    exact h0 (b2i_nz.mp zc5)
  · skip
    refine a_throw q127_8 ⟨by decide, by decide⟩ (by decide) ?_
    exact h1 (b2i_z.mp zc5)

theorem c_X9_requirePick {X : XS} {I : Nat → Int32} {A : Nat → Nat → Int32} {L : Nat → Nat → Int64} {O : Nat → UInt64} {Q : AO → AH → Prop}  (h0 : (¬ I 12 = -1) → Q (.inl none) (hp I A L O)) (h1 : ¬ (¬ I 12 = -1) → Q (.inr 1) (hp I A L O)) : Call X 128 [.ref 0] (hp I A L O) Q := by
  refine call_of (by decide) rfl rfl ?_
  refine a_aload_n (i := 0) q128_0 rfl rfl ?_
  refine a_getfield q128_1 rfl rfl ?_
  refine a_cv0 q128_4 rfl rfl ⟨rfl, rfl⟩ rfl ?_
  refine c_X4_hasPresent ?_
  refine ck_r ?_
  refine a_if_ne (tgt := 21) q128_7 (by decide) (fun zc7 => ?_) (fun zc7 => ?_)
  · skip
    refine a_return q128_21 rfl ?_
    exact h0 (b2i_nz.mp zc7)
  · skip
    refine a_throw q128_10 ⟨by decide, by decide⟩ (by decide) ?_
    exact h1 (b2i_z.mp zc7)

theorem c_X9_requireAllowedDraft {X : XS} {I : Nat → Int32} {A : Nat → Nat → Int32} {L : Nat → Nat → Int64} {O : Nat → UInt64} {Q : AO → AH → Prop}  (h0 : okC I A (I 1) → Q (.inl none) (hp I A L O)) (h1 : ¬ okC I A (I 1) → Q (.inr 1) (hp I A L O)) : Call X 129 [.ref 0] (hp I A L O) Q := by
  refine call_of (by decide) rfl rfl ?_
  refine a_aload_n (i := 0) q129_0 rfl rfl ?_
  refine a_getfield q129_1 rfl rfl ?_
  refine a_aload_n (i := 0) q129_4 rfl rfl ?_
  refine a_getfield q129_5 rfl rfl ?_
  refine a_cv1 q129_8 rfl rfl ⟨rfl, rfl⟩ rfl ?_
  refine c_X3_allows ?_
  refine ck_r ?_
  refine a_if_ne (tgt := 25) q129_11 (by decide) (fun zc11 => ?_) (fun zc11 => ?_)
  · skip
    refine a_return q129_25 rfl ?_
    exact h0 (b2i_nz.mp zc11)
  · skip
    refine a_throw q129_14 ⟨by decide, by decide⟩ (by decide) ?_
    exact h1 (b2i_z.mp zc11)

theorem c_X9_addRow {X : XS} {I : Nat → Int32} {A : Nat → Nat → Int32} {L : Nat → Nat → Int64} {O : Nat → UInt64} {Q : AO → AH → Prop} {a b c d e f : Int32} {n : Nat} (hn : I 2 = nI n) (hn40 : n ≤ 40) (h1 : ¬ (isVal a ∧ isVal b ∧ isVal c ∧ isVal d ∧ isVal e ∧ isVal f) → Q (.inr 0) (hp I A L O)) (h2 : (isVal a ∧ isVal b ∧ isVal c ∧ isVal d ∧ isVal e ∧ isVal f) → 40 ≤ n → Q (.inr 1) (hp I A L O)) (h3 : (isVal a ∧ isVal b ∧ isVal c ∧ isVal d ∧ isVal e ∧ isVal f) → n < 40 → Q (.inl (some (.int (nI (n + 1))))) (hp (va_up (va_up I 2 (nI (n + 1))) 6 1) (stA (apA A n a b c d e f) (n + 1) 6) (stL (apA A n a b c d e f) L (n + 1) 6) O)) : Call X 82 [.ref 0, .int a, .int b, .int c, .int d, .int e, .int f] (hp I A L O) Q := by
  refine call_of (by decide) rfl rfl ?_
  refine AW.cut 50 (b2i (isVal a ∧ isVal b ∧ isVal c ∧ isVal d ∧ isVal e ∧ isVal f)) (fun zk50 => ?_) ?_
  · skip
    refine a_iload_n (i := 1) q82_0 rfl rfl ?_
    refine a_cs1 q82_1 rfl ⟨rfl, rfl⟩ rfl ?_
    refine c_X9_isValue ?_
    refine ck_r ?_
    refine a_if_eq (tgt := 49) q82_4 (by decide) (fun zc4 => ?_) (fun zc4 => ?_)
    · skip
      refine a_iconst (v := 0) q82_49 (by decide) ?_
      exact cutv zk50 (b2i_f (p := (isVal a ∧ isVal b ∧ isVal c ∧ isVal d ∧ isVal e ∧ isVal f)) (fun zh => b2i_z.mp zc4 zh.1))
    · skip
      refine a_iload_n (i := 2) q82_7 rfl rfl ?_
      refine a_cs1 q82_8 rfl ⟨rfl, rfl⟩ rfl ?_
      refine c_X9_isValue ?_
      refine ck_r ?_
      refine a_if_eq (tgt := 49) q82_11 (by decide) (fun zc11 => ?_) (fun zc11 => ?_)
      · skip
        refine a_iconst (v := 0) q82_49 (by decide) ?_
        exact cutv zk50 (b2i_f (p := (isVal a ∧ isVal b ∧ isVal c ∧ isVal d ∧ isVal e ∧ isVal f)) (fun zh => b2i_z.mp zc11 zh.2.1))
      · skip
        refine a_iload_n (i := 3) q82_14 rfl rfl ?_
        refine a_cs1 q82_15 rfl ⟨rfl, rfl⟩ rfl ?_
        refine c_X9_isValue ?_
        refine ck_r ?_
        refine a_if_eq (tgt := 49) q82_18 (by decide) (fun zc18 => ?_) (fun zc18 => ?_)
        · skip
          refine a_iconst (v := 0) q82_49 (by decide) ?_
          exact cutv zk50 (b2i_f (p := (isVal a ∧ isVal b ∧ isVal c ∧ isVal d ∧ isVal e ∧ isVal f)) (fun zh => b2i_z.mp zc18 zh.2.2.1))
        · skip
          refine a_iload q82_21 rfl ?_
          refine a_cs1 q82_23 rfl ⟨rfl, rfl⟩ rfl ?_
          refine c_X9_isValue ?_
          refine ck_r ?_
          refine a_if_eq (tgt := 49) q82_26 (by decide) (fun zc26 => ?_) (fun zc26 => ?_)
          · skip
            refine a_iconst (v := 0) q82_49 (by decide) ?_
            exact cutv zk50 (b2i_f (p := (isVal a ∧ isVal b ∧ isVal c ∧ isVal d ∧ isVal e ∧ isVal f)) (fun zh => b2i_z.mp zc26 zh.2.2.2.1))
          · skip
            refine a_iload q82_29 rfl ?_
            refine a_cs1 q82_31 rfl ⟨rfl, rfl⟩ rfl ?_
            refine c_X9_isValue ?_
            refine ck_r ?_
            refine a_if_eq (tgt := 49) q82_34 (by decide) (fun zc34 => ?_) (fun zc34 => ?_)
            · skip
              refine a_iconst (v := 0) q82_49 (by decide) ?_
              exact cutv zk50 (b2i_f (p := (isVal a ∧ isVal b ∧ isVal c ∧ isVal d ∧ isVal e ∧ isVal f)) (fun zh => b2i_z.mp zc34 zh.2.2.2.2.1))
            · skip
              refine a_iload q82_37 rfl ?_
              refine a_cs1 q82_39 rfl ⟨rfl, rfl⟩ rfl ?_
              refine c_X9_isValue ?_
              refine ck_r ?_
              refine a_if_eq (tgt := 49) q82_42 (by decide) (fun zc42 => ?_) (fun zc42 => ?_)
              · skip
                refine a_iconst (v := 0) q82_49 (by decide) ?_
                exact cutv zk50 (b2i_f (p := (isVal a ∧ isVal b ∧ isVal c ∧ isVal d ∧ isVal e ∧ isVal f)) (fun zh => b2i_z.mp zc42 zh.2.2.2.2.2))
              · skip
                refine a_iconst (v := 1) q82_45 (by decide) ?_
                refine a_goto (tgt := 50) q82_46 (by decide) ?_
                exact cutv zk50 (b2i_t (p := (isVal a ∧ isVal b ∧ isVal c ∧ isVal d ∧ isVal e ∧ isVal f)) ⟨b2i_nz.mp zc4, b2i_nz.mp zc11, b2i_nz.mp zc18, b2i_nz.mp zc26, b2i_nz.mp zc34, b2i_nz.mp zc42⟩)
  refine a_istore (i := 7) (lv' := [(0, _), (1, _), (2, _), (3, _), (4, _), (5, _), (6, _), (7, _)]) q82_50 rfl rfl ?_
  refine a_iload q82_52 rfl ?_
  refine a_if_ne (tgt := 67) q82_54 (by decide) (fun zc54 => ?_) (fun zc54 => ?_)
  · skip
    refine a_aload_n (i := 0) q82_67 rfl rfl ?_
    refine a_getfield q82_68 rfl rfl ?_
    refine a_cv0 q82_71 rfl rfl ⟨rfl, rfl⟩ rfl ?_
    refine c_X7_rowCount ?_
    refine ck_r ?_
    refine a_bipush (v := 40) q82_74 (by decide) ?_
    refine a_icmp_lt (tgt := 89) q82_76 (by decide) (fun zc76 => ?_) (fun zc76 => ?_)
    · skip
      have zlt : n < 40 := Nat.lt_of_not_le (fun zh => absurd zc76 (by rw [hn]; exact nI_nlt zh (by omega)))
      refine a_aload_n (i := 0) q82_89 rfl rfl ?_
      refine a_getfield q82_90 rfl rfl ?_
      refine a_iload_n (i := 1) q82_93 rfl rfl ?_
      refine a_iload_n (i := 2) q82_94 rfl rfl ?_
      refine a_iload_n (i := 3) q82_95 rfl rfl ?_
      refine a_iload q82_96 rfl ?_
      refine a_iload q82_98 rfl ?_
      refine a_iload q82_100 rfl ?_
      refine a_cv6 q82_102 rfl rfl ⟨rfl, rfl⟩ rfl ?_
      refine c_X7_append hn zlt ?_
      refine ck_v ?_
      refine a_aload_n (i := 0) q82_105 rfl rfl ?_
      refine a_getfield q82_106 rfl rfl ?_
      refine a_cv0 q82_109 rfl rfl ⟨rfl, rfl⟩ rfl ?_
      refine c_X6_spoil ?_
      refine ck_v ?_
      refine a_aload_n (i := 0) q82_112 rfl rfl ?_
      refine a_getfield q82_113 rfl rfl ?_
      refine a_cv0 q82_116 rfl rfl ⟨rfl, rfl⟩ rfl ?_
      refine c_X7_rowCount ?_
      refine ck_r ?_
      refine a_ireturn q82_119 (nr_int rfl _) ?_
      exact lfi (h3 (b2i_nz.mp zc54) zlt) rfl
    · skip
      refine a_throw q82_79 ⟨by decide, by decide⟩ (by decide) ?_
      exact h2 (b2i_nz.mp zc54) (Nat.le_of_not_lt (fun zh => zc76 (by rw [hn]; exact nI_lt zh (by decide))))
  · skip
    refine a_throw q82_57 ⟨by decide, by decide⟩ (by decide) ?_
    exact h1 (b2i_z.mp zc54)

theorem c_X9_dropRow {X : XS} {I : Nat → Int32} {A : Nat → Nat → Int32} {L : Nat → Nat → Int64} {O : Nat → UInt64} {Q : AO → AH → Prop} {r : Int32} {n : Nat} (hn : I 2 = nI n) (hn40 : n ≤ 40) (h1 : ¬ isRow I r → Q (.inr 2) (hp I A L O)) (h2 : ∀ j m, r = nI j → n = m + 1 → j ≤ m → Q (.inl (some (.int (nI m)))) (hp (va_up (va_up I 2 (nI m)) 6 1) (stA (remT A j (m - j) 6) m 6) (stL (remT A j (m - j) 6) L m 6) O)) : Call X 83 [.ref 0, .int r] (hp I A L O) Q := by
  refine call_of (by decide) rfl rfl ?_
  refine a_aload_n (i := 0) q83_0 rfl rfl ?_
  refine a_getfield q83_1 rfl rfl ?_
  refine a_iload_n (i := 1) q83_4 rfl rfl ?_
  refine a_cv1 q83_5 rfl rfl ⟨rfl, rfl⟩ rfl ?_
  refine c_X7_hasRow ?_
  refine ck_r ?_
  refine a_if_ne (tgt := 21) q83_8 (by decide) (fun zc8 => ?_) (fun zc8 => ?_)
  · skip
    obtain ⟨j, hj, zr⟩ := isRow_of hn hn40 (b2i_nz.mp zc8)
    obtain ⟨m, zm⟩ : ∃ m, n = m + 1 := ⟨n - 1, by omega⟩
    subst zm
    subst zr
    refine a_aload_n (i := 0) q83_21 rfl rfl ?_
    refine a_getfield q83_22 rfl rfl ?_
    refine a_iload_n (i := 1) q83_25 rfl rfl ?_
    refine a_cv1 q83_26 rfl rfl ⟨rfl, rfl⟩ rfl ?_
    refine c_X7_remove hn (by omega) (by omega) ?_
    refine ck_v ?_
    refine a_aload_n (i := 0) q83_29 rfl rfl ?_
    refine a_getfield q83_30 rfl rfl ?_
    refine a_cv0 q83_33 rfl rfl ⟨rfl, rfl⟩ rfl ?_
    refine c_X6_spoil ?_
    refine ck_v ?_
    refine a_aload_n (i := 0) q83_36 rfl rfl ?_
    refine a_getfield q83_37 rfl rfl ?_
    refine a_cv0 q83_40 rfl rfl ⟨rfl, rfl⟩ rfl ?_
    refine c_X7_rowCount ?_
    refine ck_r ?_
    refine a_ireturn q83_43 (nr_int rfl _) ?_
    exact lfi (h2 j m rfl rfl (by omega)) rfl
  · skip
    refine a_throw q83_11 ⟨by decide, by decide⟩ (by decide) ?_
    exact h1 (b2i_z.mp zc8)

theorem c_X9_put {X : XS} {I : Nat → Int32} {A : Nat → Nat → Int32} {L : Nat → Nat → Int64} {O : Nat → UInt64} {Q : AO → AH → Prop} {r c v : Int32} {n : Nat} (hn : I 2 = nI n) (hn40 : n ≤ 40) (h1 : ¬ (isRow I r ∧ isCol c) → Q (.inr 2) (hp I A L O)) (h2 : isRow I r ∧ isCol c → ¬ isVal v → Q (.inr 0) (hp I A L O)) (h3 : ∀ j k, j < n → k < 6 → r = nI j → c = nI k → isVal v → Q (.inl (some (.int (cv A k j)))) (hp (va_up I 6 1) (studyA (st1 A k j v) k n) (studyL (st1 A k j v) L k n) O)) : Call X 84 [.ref 0, .int r, .int c, .int v] (hp I A L O) Q := by
  refine call_of (by decide) rfl rfl ?_
  refine a_aload_n (i := 0) q84_0 rfl rfl ?_
  refine a_getfield q84_1 rfl rfl ?_
  refine a_iload_n (i := 1) q84_4 rfl rfl ?_
  refine a_cv1 q84_5 rfl rfl ⟨rfl, rfl⟩ rfl ?_
  refine c_X7_hasRow ?_
  refine ck_r ?_
  refine a_if_eq (tgt := 18) q84_8 (by decide) (fun zc8 => ?_) (fun zc8 => ?_)
  · skip
    refine a_throw q84_18 ⟨by decide, by decide⟩ (by decide) ?_
    exact h1 (fun zz => b2i_z.mp zc8 zz.1)
  · skip
    refine a_iload_n (i := 2) q84_11 rfl rfl ?_
    refine a_cs1 q84_12 rfl ⟨rfl, rfl⟩ rfl ?_
    refine c_X9_isColumn ?_
    refine ck_r ?_
    refine a_if_ne (tgt := 28) q84_15 (by decide) (fun zc15 => ?_) (fun zc15 => ?_)
    · skip
      refine a_iload_n (i := 3) q84_28 rfl rfl ?_
      refine a_cs1 q84_29 rfl ⟨rfl, rfl⟩ rfl ?_
      refine c_X9_isValue ?_
      refine ck_r ?_
      refine a_if_ne (tgt := 45) q84_32 (by decide) (fun zc32 => ?_) (fun zc32 => ?_)
      · skip
        obtain ⟨j, hj, zr⟩ := isRow_of hn hn40 (b2i_nz.mp zc8)
        obtain ⟨k, hk, zkc⟩ := isCol_of (b2i_nz.mp zc15)
        subst zr
        subst zkc
        refine a_aload_n (i := 0) q84_45 rfl rfl ?_
        refine a_getfield q84_46 rfl rfl ?_
        refine a_iload_n (i := 1) q84_49 rfl rfl ?_
        refine a_iload_n (i := 2) q84_50 rfl rfl ?_
        refine a_cv2 q84_51 rfl rfl ⟨rfl, rfl⟩ rfl ?_
        refine c_X7_valueAt_n hn hn40 hj hk ?_
        refine ck_r ?_
        refine a_istore (i := 4) (lv' := [(0, _), (1, _), (2, _), (3, _), (4, _)]) q84_54 rfl rfl ?_
        refine a_aload_n (i := 0) q84_56 rfl rfl ?_
        refine a_getfield q84_57 rfl rfl ?_
        refine a_iload_n (i := 1) q84_60 rfl rfl ?_
        refine a_iload_n (i := 2) q84_61 rfl rfl ?_
        refine a_iload_n (i := 3) q84_62 rfl rfl ?_
        refine a_cv3 q84_63 rfl rfl ⟨rfl, rfl⟩ rfl ?_
        refine c_X7_change hn hn40 hj hk ?_
        refine ck_v ?_
        refine a_aload_n (i := 0) q84_66 rfl rfl ?_
        refine a_getfield q84_67 rfl rfl ?_
        refine a_cv0 q84_70 rfl rfl ⟨rfl, rfl⟩ rfl ?_
        refine c_X6_spoil ?_
        refine ck_v ?_
        refine a_iload q84_73 rfl ?_
        refine a_ireturn q84_75 (nr_int rfl _) ?_
        exact h3 j k hj hk rfl rfl (b2i_nz.mp zc32)
      · skip
        refine a_throw q84_35 ⟨by decide, by decide⟩ (by decide) ?_
        exact h2 ⟨b2i_nz.mp zc8, b2i_nz.mp zc15⟩ (b2i_z.mp zc32)
    · skip
      refine a_throw q84_18 ⟨by decide, by decide⟩ (by decide) ?_
      exact h1 (fun zz => b2i_z.mp zc15 zz.2)

theorem c_X9_rows {X : XS} {I : Nat → Int32} {A : Nat → Nat → Int32} {L : Nat → Nat → Int64} {O : Nat → UInt64} {Q : AO → AH → Prop}  (hq : Q (.inl (some (.int (I 2)))) (hp I A L O)) : Call X 85 [.ref 0] (hp I A L O) Q := by
  refine call_of (by decide) rfl rfl ?_
  refine a_aload_n (i := 0) q85_0 rfl rfl ?_
  refine a_getfield q85_1 rfl rfl ?_
  refine a_cv0 q85_4 rfl rfl ⟨rfl, rfl⟩ rfl ?_
  refine c_X7_rowCount ?_
  refine ck_r ?_
  refine a_ireturn q85_7 (nr_int rfl _) ?_
  exact hq

theorem c_X9_different {X : XS} {I : Nat → Int32} {A : Nat → Nat → Int32} {L : Nat → Nat → Int64} {O : Nat → UInt64} {Q : AO → AH → Prop} {c : Int32} (h0 : isCol c → Q (.inl (some (.int (f_differentIn A c)))) (hp I A L O)) (h1 : ¬ isCol c → Q (.inr 2) (hp I A L O)) : Call X 86 [.ref 0, .int c] (hp I A L O) Q := by
  refine call_of (by decide) rfl rfl ?_
  refine a_iload_n (i := 1) q86_0 rfl rfl ?_
  refine a_cs1 q86_1 rfl ⟨rfl, rfl⟩ rfl ?_
  refine c_X9_requireColumn (fun zcol => ?_) (fun zn => ck_x rfl (h1 zn))
  refine ck_v ?_
  refine a_aload_n (i := 0) q86_4 rfl rfl ?_
  refine a_getfield q86_5 rfl rfl ?_
  refine a_iload_n (i := 1) q86_8 rfl rfl ?_
  refine a_cv1 q86_9 rfl rfl ⟨rfl, rfl⟩ rfl ?_
  refine c_X7_differentIn ?_
  refine ck_r ?_
  refine a_ireturn q86_12 (nr_int rfl _) ?_
  exact h0 zcol

theorem c_X9_sumOf {X : XS} {I : Nat → Int32} {A : Nat → Nat → Int32} {L : Nat → Nat → Int64} {O : Nat → UInt64} {Q : AO → AH → Prop} {c : Int32} (h0 : isCol c → Q (.inl (some (.long (f_sumIn L c)))) (hp I A L O)) (h1 : ¬ isCol c → Q (.inr 2) (hp I A L O)) : Call X 87 [.ref 0, .int c] (hp I A L O) Q := by
  refine call_of (by decide) rfl rfl ?_
  refine a_iload_n (i := 1) q87_0 rfl rfl ?_
  refine a_cs1 q87_1 rfl ⟨rfl, rfl⟩ rfl ?_
  refine c_X9_requireColumn (fun zcol => ?_) (fun zn => ck_x rfl (h1 zn))
  refine ck_v ?_
  refine a_aload_n (i := 0) q87_4 rfl rfl ?_
  refine a_getfield q87_5 rfl rfl ?_
  refine a_iload_n (i := 1) q87_8 rfl rfl ?_
  refine a_cv1 q87_9 rfl rfl ⟨rfl, rfl⟩ rfl ?_
  refine c_X7_sumIn ?_
  refine ck_r ?_
  refine a_lreturn q87_12 rfl ?_
  exact h0 zcol

theorem c_X9_kindOf {X : XS} {I : Nat → Int32} {A : Nat → Nat → Int32} {L : Nat → Nat → Int64} {O : Nat → UInt64} {Q : AO → AH → Prop} {c : Int32} (h0 : isCol c → Q (.inl (some (.int (f_kindAt A c)))) (hp I A L O)) (h1 : ¬ isCol c → Q (.inr 2) (hp I A L O)) : Call X 90 [.ref 0, .int c] (hp I A L O) Q := by
  refine call_of (by decide) rfl rfl ?_
  refine a_iload_n (i := 1) q90_0 rfl rfl ?_
  refine a_cs1 q90_1 rfl ⟨rfl, rfl⟩ rfl ?_
  refine c_X9_requireColumn (fun zcol => ?_) (fun zn => ck_x rfl (h1 zn))
  refine ck_v ?_
  refine a_aload_n (i := 0) q90_4 rfl rfl ?_
  refine a_getfield q90_5 rfl rfl ?_
  refine a_iload_n (i := 1) q90_8 rfl rfl ?_
  refine a_cv1 q90_9 rfl rfl ⟨rfl, rfl⟩ rfl ?_
  refine c_X7_kindAt ?_
  refine ck_r ?_
  refine a_ireturn q90_12 (nr_int rfl _) ?_
  exact h0 zcol

theorem c_X9_force {X : XS} {I : Nat → Int32} {A : Nat → Nat → Int32} {L : Nat → Nat → Int64} {O : Nat → UInt64} {Q : AO → AH → Prop} {c k : Int32} {n : Nat} (hn : I 2 = nI n) (hn40 : n ≤ 40) (h1 : ¬ isCol c → Q (.inr 2) (hp I A L O)) (h2 : isCol c → ¬ (k = 2 ∨ k = 3 ∨ k = 4) → Q (.inr 0) (hp I A L O)) (h3 : ∀ j, j < 6 → c = nI j → (k = 2 ∨ k = 3 ∨ k = 4) → Q (.inl (some (.int (studyA (va_up A 3 (upd (A 3) j k)) j n 4 j)))) (hp (va_up I 6 1) (studyA (va_up A 3 (upd (A 3) j k)) j n) (studyL (va_up A 3 (upd (A 3) j k)) L j n) O)) : Call X 91 [.ref 0, .int c, .int k] (hp I A L O) Q := by
  refine call_of (by decide) rfl rfl ?_
  refine a_iload_n (i := 1) q91_0 rfl rfl ?_
  refine a_cs1 q91_1 rfl ⟨rfl, rfl⟩ rfl ?_
  refine c_X9_requireColumn (fun zcol => ?_) (fun zn => ck_x rfl (h1 zn))
  refine ck_v ?_
  refine a_iload_n (i := 2) q91_4 rfl rfl ?_
  refine a_iconst (v := 2) q91_5 (by decide) ?_
  refine a_icmp_eq (tgt := 29) q91_6 (by decide) (fun zc6 => ?_) (fun zc6 => ?_)
  · skip
    obtain ⟨j, hj, zr⟩ := isCol_of zcol
    subst zr
    refine a_aload_n (i := 0) q91_29 rfl rfl ?_
    refine a_getfield q91_30 rfl rfl ?_
    refine a_iload_n (i := 1) q91_33 rfl rfl ?_
    refine a_iload_n (i := 2) q91_34 rfl rfl ?_
    refine a_cv2 q91_35 rfl rfl ⟨rfl, rfl⟩ rfl ?_
    refine c_X7_setForcedKind hn hn40 hj ?_
    refine ck_v ?_
    refine a_aload_n (i := 0) q91_38 rfl rfl ?_
    refine a_getfield q91_39 rfl rfl ?_
    refine a_cv0 q91_42 rfl rfl ⟨rfl, rfl⟩ rfl ?_
    refine c_X6_spoil ?_
    refine ck_v ?_
    refine a_aload_n (i := 0) q91_45 rfl rfl ?_
    refine a_getfield q91_46 rfl rfl ?_
    refine a_iload_n (i := 1) q91_49 rfl rfl ?_
    refine a_cv1 q91_50 rfl rfl ⟨rfl, rfl⟩ rfl ?_
    refine c_X7_kindAt ?_
    refine ck_r ?_
    refine a_ireturn q91_53 (nr_int rfl _) ?_
    exact lfi (h3 j hj rfl (by simp [zc6])) (by rw [f_kindAt, if_pos (isCol_n hj), nI_cl (n := 6) hj (by decide)])
  · skip
    refine a_iload_n (i := 2) q91_9 rfl rfl ?_
    refine a_iconst (v := 3) q91_10 (by decide) ?_
    refine a_icmp_eq (tgt := 29) q91_11 (by decide) (fun zc11 => ?_) (fun zc11 => ?_)
    · skip
      obtain ⟨j, hj, zr⟩ := isCol_of zcol
      subst zr
      refine a_aload_n (i := 0) q91_29 rfl rfl ?_
      refine a_getfield q91_30 rfl rfl ?_
      refine a_iload_n (i := 1) q91_33 rfl rfl ?_
      refine a_iload_n (i := 2) q91_34 rfl rfl ?_
      refine a_cv2 q91_35 rfl rfl ⟨rfl, rfl⟩ rfl ?_
      refine c_X7_setForcedKind hn hn40 hj ?_
      refine ck_v ?_
      refine a_aload_n (i := 0) q91_38 rfl rfl ?_
      refine a_getfield q91_39 rfl rfl ?_
      refine a_cv0 q91_42 rfl rfl ⟨rfl, rfl⟩ rfl ?_
      refine c_X6_spoil ?_
      refine ck_v ?_
      refine a_aload_n (i := 0) q91_45 rfl rfl ?_
      refine a_getfield q91_46 rfl rfl ?_
      refine a_iload_n (i := 1) q91_49 rfl rfl ?_
      refine a_cv1 q91_50 rfl rfl ⟨rfl, rfl⟩ rfl ?_
      refine c_X7_kindAt ?_
      refine ck_r ?_
      refine a_ireturn q91_53 (nr_int rfl _) ?_
      exact lfi (h3 j hj rfl (by simp [zc11])) (by rw [f_kindAt, if_pos (isCol_n hj), nI_cl (n := 6) hj (by decide)])
    · skip
      refine a_iload_n (i := 2) q91_14 rfl rfl ?_
      refine a_iconst (v := 4) q91_15 (by decide) ?_
      refine a_icmp_eq (tgt := 29) q91_16 (by decide) (fun zc16 => ?_) (fun zc16 => ?_)
      · skip
        obtain ⟨j, hj, zr⟩ := isCol_of zcol
        subst zr
        refine a_aload_n (i := 0) q91_29 rfl rfl ?_
        refine a_getfield q91_30 rfl rfl ?_
        refine a_iload_n (i := 1) q91_33 rfl rfl ?_
        refine a_iload_n (i := 2) q91_34 rfl rfl ?_
        refine a_cv2 q91_35 rfl rfl ⟨rfl, rfl⟩ rfl ?_
        refine c_X7_setForcedKind hn hn40 hj ?_
        refine ck_v ?_
        refine a_aload_n (i := 0) q91_38 rfl rfl ?_
        refine a_getfield q91_39 rfl rfl ?_
        refine a_cv0 q91_42 rfl rfl ⟨rfl, rfl⟩ rfl ?_
        refine c_X6_spoil ?_
        refine ck_v ?_
        refine a_aload_n (i := 0) q91_45 rfl rfl ?_
        refine a_getfield q91_46 rfl rfl ?_
        refine a_iload_n (i := 1) q91_49 rfl rfl ?_
        refine a_cv1 q91_50 rfl rfl ⟨rfl, rfl⟩ rfl ?_
        refine c_X7_kindAt ?_
        refine ck_r ?_
        refine a_ireturn q91_53 (nr_int rfl _) ?_
        exact lfi (h3 j hj rfl (by simp [zc16])) (by rw [f_kindAt, if_pos (isCol_n hj), nI_cl (n := 6) hj (by decide)])
      · skip
        refine a_throw q91_19 ⟨by decide, by decide⟩ (by decide) ?_
        exact h2 zcol (by simp [zc6, zc11, zc16])

theorem f_forced_n {A : Nat → Nat → Int32} {j : Nat} (hj : j < 6) : f_forcedKindAt A (nI j) = A 3 j := by rw [f_forcedKindAt, if_pos (isCol_n hj), nI_cl (n := 6) hj (by decide)]
theorem c_X9_unforce {X : XS} {I : Nat → Int32} {A : Nat → Nat → Int32} {L : Nat → Nat → Int64} {O : Nat → UInt64} {Q : AO → AH → Prop} {c : Int32} {n : Nat} (hn : I 2 = nI n) (hn40 : n ≤ 40) (h1 : ¬ isCol c → Q (.inr 2) (hp I A L O)) (h2 : ∀ j, j < 6 → c = nI j → A 3 j = -1 → Q (.inr 1) (hp I A L O)) (h3 : ∀ j, j < 6 → c = nI j → ¬ A 3 j = -1 → Q (.inl (some (.int (studyA (va_up A 3 (upd (A 3) j (-1))) j n 4 j)))) (hp (va_up I 6 1) (studyA (va_up A 3 (upd (A 3) j (-1))) j n) (studyL (va_up A 3 (upd (A 3) j (-1))) L j n) O)) : Call X 92 [.ref 0, .int c] (hp I A L O) Q := by
  refine call_of (by decide) rfl rfl ?_
  refine a_iload_n (i := 1) q92_0 rfl rfl ?_
  refine a_cs1 q92_1 rfl ⟨rfl, rfl⟩ rfl ?_
  refine c_X9_requireColumn (fun zcol => ?_) (fun zn => ck_x rfl (h1 zn))
  refine ck_v ?_
  obtain ⟨j, hj, zr⟩ := isCol_of zcol
  subst zr
  refine a_aload_n (i := 0) q92_4 rfl rfl ?_
  refine a_getfield q92_5 rfl rfl ?_
  refine a_iload_n (i := 1) q92_8 rfl rfl ?_
  refine a_cv1 q92_9 rfl rfl ⟨rfl, rfl⟩ rfl ?_
  refine c_X7_forcedKindAt ?_
  refine ck_r ?_
  refine a_iconst (v := (-1)) q92_12 (by decide) ?_
  refine a_icmp_ne (tgt := 26) q92_13 (by decide) (fun zc13 => ?_) (fun zc13 => ?_)
  · skip
    refine a_aload_n (i := 0) q92_26 rfl rfl ?_
    refine a_getfield q92_27 rfl rfl ?_
    refine a_iload_n (i := 1) q92_30 rfl rfl ?_
    refine a_iconst (v := (-1)) q92_31 (by decide) ?_
    refine a_cv2 q92_32 rfl rfl ⟨rfl, rfl⟩ rfl ?_
    refine c_X7_setForcedKind hn hn40 hj ?_
    refine ck_v ?_
    refine a_aload_n (i := 0) q92_35 rfl rfl ?_
    refine a_getfield q92_36 rfl rfl ?_
    refine a_cv0 q92_39 rfl rfl ⟨rfl, rfl⟩ rfl ?_
    refine c_X6_spoil ?_
    refine ck_v ?_
    refine a_aload_n (i := 0) q92_42 rfl rfl ?_
    refine a_getfield q92_43 rfl rfl ?_
    refine a_iload_n (i := 1) q92_46 rfl rfl ?_
    refine a_cv1 q92_47 rfl rfl ⟨rfl, rfl⟩ rfl ?_
    refine c_X7_kindAt ?_
    refine ck_r ?_
    refine a_ireturn q92_50 (nr_int rfl _) ?_
    exact lfi (h3 j hj rfl (by rw [f_forced_n hj] at zc13; exact zc13)) (by rw [f_kindAt, if_pos (isCol_n hj), nI_cl (n := 6) hj (by decide)])
  · skip
    refine a_throw q92_16 ⟨by decide, by decide⟩ (by decide) ?_
    exact h2 j hj rfl (by rw [f_forced_n hj] at zc13; exact zc13)

theorem c_X9_wish {X : XS} {I : Nat → Int32} {A : Nat → Nat → Int32} {L : Nat → Nat → Int64} {O : Nat → UInt64} {Q : AO → AH → Prop} {c z : Int32} (h1 : ¬ isCol c → Q (.inr 2) (hp I A L O)) (h0 : isCol c → Q (.inl (some (.int (g_bc (g_wish (I 3) c z))))) (hp (va_up (va_up I 6 1) 3 (g_wish (I 3) c z)) A L O)) : Call X 93 [.ref 0, .int c, .int z] (hp I A L O) Q := by
  refine call_of (by decide) rfl rfl ?_
  refine a_iload_n (i := 1) q93_0 rfl rfl ?_
  refine a_cs1 q93_1 rfl ⟨rfl, rfl⟩ rfl ?_
  refine c_X9_requireColumn (fun zcol => ?_) (fun zn => ck_x rfl (h1 zn))
  refine ck_v ?_
  refine a_aload_n (i := 0) q93_4 rfl rfl ?_
  refine a_getfield q93_5 rfl rfl ?_
  refine a_cv0 q93_8 rfl rfl ⟨rfl, rfl⟩ rfl ?_
  refine c_X6_spoil ?_
  refine ck_v ?_
  refine a_aload_n (i := 0) q93_11 rfl rfl ?_
  refine a_getfield q93_12 rfl rfl ?_
  refine a_iload_n (i := 1) q93_15 rfl rfl ?_
  refine a_iload_n (i := 2) q93_16 rfl rfl ?_
  refine a_cv2 q93_17 rfl rfl ⟨rfl, rfl⟩ rfl ?_
  refine c_X3_wishColumn ?_
  refine ck_r ?_
  refine a_ireturn q93_20 (nr_int rfl _) ?_
  exact h0 zcol

theorem c_X9_wishMark {X : XS} {I : Nat → Int32} {A : Nat → Nat → Int32} {L : Nat → Nat → Int64} {O : Nat → UInt64} {Q : AO → AH → Prop} {m : Int32} (hm : narrow .char (.int m) = .int m) (hf : fits .char (.int m) = true) (hn4 : narrow .char (.int (I 4)) = .int (I 4)) (h1 : ¬ isMk m → ¬ m = 45 → Q (.inr 0) (hp I A L O)) (h0 : (isMk m ∨ m = 45) → Q (.inl (some (.int (I 4)))) (hp (va_up (va_up I 6 1) 4 m) A L O)) : Call X 94 [.ref 0, .int m] (hp I A L O) Q := by
  refine call_of (by decide) rfl rfl ?_
  refine a_iload_n (i := 1) q94_0 rfl rfl ?_
  refine a_cs1 q94_1 rfl ⟨rfl, rfl⟩ rfl ?_
  refine c_X9_isMark ?_
  refine ck_r ?_
  refine a_if_ne (tgt := 23) q94_4 (by decide) (fun zc4 => ?_) (fun zc4 => ?_)
  · skip
    refine a_aload_n (i := 0) q94_23 rfl rfl ?_
    refine a_getfield q94_24 rfl rfl ?_
    refine a_cv0 q94_27 rfl rfl ⟨rfl, rfl⟩ rfl ?_
    refine c_X6_spoil ?_
    refine ck_v ?_
    refine a_aload_n (i := 0) q94_30 rfl rfl ?_
    refine a_getfield q94_31 rfl rfl ?_
    refine a_iload_n (i := 1) q94_34 rfl rfl ?_
    refine a_cv1 q94_35 rfl rfl ⟨rfl, rfl⟩ rfl ?_
    refine c_X3_exchangeWishedMark hm hf hn4 ?_
    refine ck_r ?_
    refine a_ireturn q94_38 (nr_char rfl hn4) ?_
    exact h0 (Or.inl (b2i_nz.mp zc4))
  · skip
    refine a_iload_n (i := 1) q94_7 rfl rfl ?_
    refine a_bipush (v := 45) q94_8 (by decide) ?_
    refine a_icmp_eq (tgt := 23) q94_10 (by decide) (fun zc10 => ?_) (fun zc10 => ?_)
    · skip
      refine a_aload_n (i := 0) q94_23 rfl rfl ?_
      refine a_getfield q94_24 rfl rfl ?_
      refine a_cv0 q94_27 rfl rfl ⟨rfl, rfl⟩ rfl ?_
      refine c_X6_spoil ?_
      refine ck_v ?_
      refine a_aload_n (i := 0) q94_30 rfl rfl ?_
      refine a_getfield q94_31 rfl rfl ?_
      refine a_iload_n (i := 1) q94_34 rfl rfl ?_
      refine a_cv1 q94_35 rfl rfl ⟨rfl, rfl⟩ rfl ?_
      refine c_X3_exchangeWishedMark hm hf hn4 ?_
      refine ck_r ?_
      refine a_ireturn q94_38 (nr_char rfl hn4) ?_
      exact h0 (Or.inr zc10)
    · skip
      refine a_throw q94_13 ⟨by decide, by decide⟩ (by decide) ?_
      exact h1 (b2i_z.mp zc4) zc10

theorem c_X9_forbid {X : XS} {I : Nat → Int32} {A : Nat → Nat → Int32} {L : Nat → Nat → Int64} {O : Nat → UInt64} {Q : AO → AH → Prop} {c k : Int32} (h1 : ¬ (isCol c ∧ isChan k) → Q (.inr 2) (hp I A L O)) (h2 : isCol c → isChan k → f_forb I c k → Q (.inr 1) (hp I A L O)) (h3 : isCol c → isChan k → ¬ f_forb I c k → Q (.inl (some (.int (g_bc (g_turn (I 5) c k))))) (hp (va_up (va_up I 6 1) 5 (g_turn (I 5) c k)) A L O)) : Call X 95 [.ref 0, .int c, .int k] (hp I A L O) Q := by
  refine call_of (by decide) rfl rfl ?_
  refine a_iload_n (i := 1) q95_0 rfl rfl ?_
  refine a_iload_n (i := 2) q95_1 rfl rfl ?_
  refine a_cs2 q95_2 rfl ⟨rfl, rfl⟩ rfl ?_
  refine c_X9_requirePair (fun zcol zchan => ?_) (fun zn => ck_x rfl (h1 zn))
  refine ck_v ?_
  refine a_aload_n (i := 0) q95_5 rfl rfl ?_
  refine a_getfield q95_6 rfl rfl ?_
  refine a_iload_n (i := 1) q95_9 rfl rfl ?_
  refine a_iload_n (i := 2) q95_10 rfl rfl ?_
  refine a_cv2 q95_11 rfl rfl ⟨rfl, rfl⟩ rfl ?_
  refine c_X3_isForbidden ?_
  refine ck_r ?_
  refine a_if_eq (tgt := 27) q95_14 (by decide) (fun zc14 => ?_) (fun zc14 => ?_)
  · skip
    refine a_aload_n (i := 0) q95_27 rfl rfl ?_
    refine a_getfield q95_28 rfl rfl ?_
    refine a_cv0 q95_31 rfl rfl ⟨rfl, rfl⟩ rfl ?_
    refine c_X6_spoil ?_
    refine ck_v ?_
    refine a_aload_n (i := 0) q95_34 rfl rfl ?_
    refine a_getfield q95_35 rfl rfl ?_
    refine a_iload_n (i := 1) q95_38 rfl rfl ?_
    refine a_iload_n (i := 2) q95_39 rfl rfl ?_
    refine a_cv2 q95_40 rfl rfl ⟨rfl, rfl⟩ rfl ?_
    refine c_X3_turnForbidden ?_
    refine ck_r ?_
    refine a_ireturn q95_43 (nr_int rfl _) ?_
    exact h3 zcol zchan (b2i_z.mp zc14)
  · skip
    refine a_throw q95_17 ⟨by decide, by decide⟩ (by decide) ?_
    exact h2 zcol zchan (b2i_nz.mp zc14)

theorem c_X9_allow {X : XS} {I : Nat → Int32} {A : Nat → Nat → Int32} {L : Nat → Nat → Int64} {O : Nat → UInt64} {Q : AO → AH → Prop} {c k : Int32} (h1 : ¬ (isCol c ∧ isChan k) → Q (.inr 2) (hp I A L O)) (h2 : isCol c → isChan k → ¬ f_forb I c k → Q (.inr 1) (hp I A L O)) (h3 : isCol c → isChan k → f_forb I c k → Q (.inl (some (.int (g_bc (g_turn (I 5) c k))))) (hp (va_up (va_up I 6 1) 5 (g_turn (I 5) c k)) A L O)) : Call X 96 [.ref 0, .int c, .int k] (hp I A L O) Q := by
  refine call_of (by decide) rfl rfl ?_
  refine a_iload_n (i := 1) q96_0 rfl rfl ?_
  refine a_iload_n (i := 2) q96_1 rfl rfl ?_
  refine a_cs2 q96_2 rfl ⟨rfl, rfl⟩ rfl ?_
  refine c_X9_requirePair (fun zcol zchan => ?_) (fun zn => ck_x rfl (h1 zn))
  refine ck_v ?_
  refine a_aload_n (i := 0) q96_5 rfl rfl ?_
  refine a_getfield q96_6 rfl rfl ?_
  refine a_iload_n (i := 1) q96_9 rfl rfl ?_
  refine a_iload_n (i := 2) q96_10 rfl rfl ?_
  refine a_cv2 q96_11 rfl rfl ⟨rfl, rfl⟩ rfl ?_
  refine c_X3_isForbidden ?_
  refine ck_r ?_
  refine a_if_ne (tgt := 27) q96_14 (by decide) (fun zc14 => ?_) (fun zc14 => ?_)
  · skip
    refine a_aload_n (i := 0) q96_27 rfl rfl ?_
    refine a_getfield q96_28 rfl rfl ?_
    refine a_cv0 q96_31 rfl rfl ⟨rfl, rfl⟩ rfl ?_
    refine c_X6_spoil ?_
    refine ck_v ?_
    refine a_aload_n (i := 0) q96_34 rfl rfl ?_
    refine a_getfield q96_35 rfl rfl ?_
    refine a_iload_n (i := 1) q96_38 rfl rfl ?_
    refine a_iload_n (i := 2) q96_39 rfl rfl ?_
    refine a_cv2 q96_40 rfl rfl ⟨rfl, rfl⟩ rfl ?_
    refine c_X3_turnForbidden ?_
    refine ck_r ?_
    refine a_ireturn q96_43 (nr_int rfl _) ?_
    exact h3 zcol zchan (b2i_nz.mp zc14)
  · skip
    refine a_throw q96_17 ⟨by decide, by decide⟩ (by decide) ?_
    exact h2 zcol zchan (b2i_z.mp zc14)

theorem isRule_of {c : Int32} (h : isRule c) : ∃ j : Nat, j < 8 ∧ c = nI j := vp_in_of (vpi (n := 8) (i_nlt.mpr h.1) (i_nle.mpr h.2) rfl) (by decide)
theorem c_X9_setWeight {X : XS} {I : Nat → Int32} {A : Nat → Nat → Int32} {L : Nat → Nat → Int64} {O : Nat → UInt64} {Q : AO → AH → Prop} {r w : Int32} (h1 : ¬ isRule r → Q (.inr 2) (hp I A L O)) (h2 : isRule r → ¬ (0 ≤ w ∧ w ≤ 99) → Q (.inr 0) (hp I A L O)) (h3 : ∀ j, j < 8 → r = nI j → (0 ≤ w ∧ w ≤ 99) → Q (.inl (some (.int (A 11 j)))) (hp (va_up I 6 1) (va_up A 11 (upd (A 11) j w)) L O)) : Call X 97 [.ref 0, .int r, .int w] (hp I A L O) Q := by
  refine call_of (by decide) rfl rfl ?_
  refine a_aload_n (i := 0) q97_0 rfl rfl ?_
  refine a_getfield q97_1 rfl rfl ?_
  refine a_iload_n (i := 1) q97_4 rfl rfl ?_
  refine a_cv1 q97_5 rfl rfl ⟨rfl, rfl⟩ rfl ?_
  refine c_X2_hasRule ?_
  refine ck_r ?_
  refine a_if_ne (tgt := 21) q97_8 (by decide) (fun zc8 => ?_) (fun zc8 => ?_)
  · skip
    refine a_iload_n (i := 2) q97_21 rfl rfl ?_
    refine a_if_lt (tgt := 31) q97_22 (by decide) (fun zc22 => ?_) (fun zc22 => ?_)
    · skip
      refine a_throw q97_31 ⟨by decide, by decide⟩ (by decide) ?_
      exact h2 (b2i_nz.mp zc8) (fun zz => absurd zz.1 (i_nle.mpr zc22))
    · skip
      refine a_iload_n (i := 2) q97_25 rfl rfl ?_
      refine a_bipush (v := 99) q97_26 (by decide) ?_
      refine a_icmp_le (tgt := 41) q97_28 (by decide) (fun zc28 => ?_) (fun zc28 => ?_)
      · skip
        obtain ⟨j, hj, zr⟩ := isRule_of (b2i_nz.mp zc8)
        subst zr
        refine a_aload_n (i := 0) q97_41 rfl rfl ?_
        refine a_getfield q97_42 rfl rfl ?_
        refine a_cv0 q97_45 rfl rfl ⟨rfl, rfl⟩ rfl ?_
        refine c_X6_spoil ?_
        refine ck_v ?_
        refine a_aload_n (i := 0) q97_48 rfl rfl ?_
        refine a_getfield q97_49 rfl rfl ?_
        refine a_iload_n (i := 1) q97_52 rfl rfl ?_
        refine a_iload_n (i := 2) q97_53 rfl rfl ?_
        refine a_cv2 q97_54 rfl rfl ⟨rfl, rfl⟩ rfl ?_
        refine c_X2_exchangeWeight hj ?_
        refine ck_r ?_
        refine a_ireturn q97_57 (nr_int rfl _) ?_
        exact h3 j hj rfl ⟨i_nlt.mp zc22, zc28⟩
      · skip
        refine a_throw q97_31 ⟨by decide, by decide⟩ (by decide) ?_
        exact h2 (b2i_nz.mp zc8) (fun zz => zc28 zz.2)
  · skip
    refine a_throw q97_11 ⟨by decide, by decide⟩ (by decide) ?_
    exact h1 (b2i_z.mp zc8)
