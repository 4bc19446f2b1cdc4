/-! the model's table calls and settings -/
theorem nI_ix4 (i j : Nat) : (4 : Int32) * nI i + nI j = nI (4 * i + j) := by
  rw [show (4 : Int32) * nI i = nI (4 * i) from (Int32.ofNat_mul 4 i).symm, nI_add]
def cntB (f : Nat → Int32) : Nat → Int32
  | 0 => 0
  | k + 1 => if f k = 0 then cntB f k + 0 else cntB f k + 1
theorem z01 {z : Int32} (h : z = 0 ∨ z = 1) : vp_nar .boolean z = z := by rcases h with rfl | rfl <;> rfl
theorem isChan_of {c : Int32} (h : isChan c) : ∃ j : Nat, j < 4 ∧ c = nI j := vp_in_of (vpi (n := 4) (i_nlt.mpr h.1) (i_nle.mpr h.2) rfl) (by decide)
theorem c_X10_different {X : XS} {I : Nat → Int32} {A : Nat → Nat → Int32} {L : Nat → Nat → Int64} {O : Nat → UInt64} {Q : AO → AH → Prop} {c : Int32} {n : Nat} (hn : I 20 = nI n) (hn40 : n ≤ 40) (h1 : ¬ isCol c → Q (.inl (some (.int 0))) (hp (va_up I 26 1) A L O)) (h0 : ∀ j, j < 6 → c = nI j → Q (.inl (some (.int (stDif (mv A j) n)))) (hp (va_up I 26 0) A L O)) : Call X 147 [.ref 21, .int c] (hp I A L O) Q := by
  refine call_of (by decide) rfl rfl ?_
  refine a_aload_n (i := 0) q147_0 rfl rfl ?_
  refine a_iload_n (i := 1) q147_1 rfl rfl ?_
  refine a_cv1 q147_2 rfl rfl ⟨rfl, rfl⟩ rfl ?_
  refine c_X10_isNoColumn (fun zt2 => ?_) (fun zt2 => ?_)
  · skip
    refine ck_r ?_
    refine a_if_eq (tgt := 12) q147_5 (by decide) (fun zc5 => absurd zc5 (by decide)) (fun zc5 => ?_)
    refine a_iconst (v := 0) q147_8 (by decide) ?_
    refine a_goto (tgt := 17) q147_9 (by decide) ?_
    refine a_ireturn q147_17 (nr_int rfl _) ?_
    exact h1 zt2
  · skip
    refine ck_r ?_
    refine a_if_eq (tgt := 12) q147_5 (by decide) (fun zc5 => ?_) (fun zc5 => absurd (by decide) zc5)
    obtain ⟨j, hj, zr⟩ := isCol_of zt2
    subst zr
    refine a_aload_n (i := 0) q147_12 rfl rfl ?_
    refine a_iload_n (i := 1) q147_13 rfl rfl ?_
    refine a_cv1 q147_14 rfl rfl ⟨rfl, rfl⟩ rfl ?_
    refine c_X10_unlike hn hn40 hj ?_
    refine ck_r ?_
    refine a_ireturn q147_17 (nr_int rfl _) ?_
    exact h0 j hj rfl

theorem c_X10_sumOf {X : XS} {I : Nat → Int32} {A : Nat → Nat → Int32} {L : Nat → Nat → Int64} {O : Nat → UInt64} {Q : AO → AH → Prop} {c : Int32} {n : Nat} (hn : I 20 = nI n) (hn40 : n ≤ 40) (h1 : ¬ isCol c → Q (.inl (some (.long 0))) (hp (va_up I 26 1) A L O)) (h0 : ∀ j, j < 6 → c = nI j → Q (.inl (some (.long (stSum (mv A j) n)))) (hp (va_up I 26 0) A L O)) : Call X 149 [.ref 21, .int c] (hp I A L O) Q := by
  refine call_of (by decide) rfl rfl ?_
  refine a_aload_n (i := 0) q149_0 rfl rfl ?_
  refine a_iload_n (i := 1) q149_1 rfl rfl ?_
  refine a_cv1 q149_2 rfl rfl ⟨rfl, rfl⟩ rfl ?_
  refine c_X10_isNoColumn (fun zt2 => ?_) (fun zt2 => ?_)
  · skip
    refine ck_r ?_
    refine a_if_eq (tgt := 12) q149_5 (by decide) (fun zc5 => absurd zc5 (by decide)) (fun zc5 => ?_)
    refine a_lconst (v := 0) q149_8 (by decide) ?_
    refine a_goto (tgt := 17) q149_9 (by decide) ?_
    refine a_lreturn q149_17 rfl ?_
    exact h1 zt2
  · skip
    refine ck_r ?_
    refine a_if_eq (tgt := 12) q149_5 (by decide) (fun zc5 => ?_) (fun zc5 => absurd (by decide) zc5)
    obtain ⟨j, hj, zr⟩ := isCol_of zt2
    subst zr
    refine a_aload_n (i := 0) q149_12 rfl rfl ?_
    refine a_iload_n (i := 1) q149_13 rfl rfl ?_
    refine a_cv1 q149_14 rfl rfl ⟨rfl, rfl⟩ rfl ?_
    refine c_X10_sum hn hn40 hj ?_
    refine ck_r ?_
    refine a_lreturn q149_17 rfl ?_
    exact h0 j hj rfl

theorem c_X10_kindOf {X : XS} {I : Nat → Int32} {A : Nat → Nat → Int32} {L : Nat → Nat → Int64} {O : Nat → UInt64} {Q : AO → AH → Prop} {c : Int32} {n : Nat} (hn : I 20 = nI n) (hn40 : n ≤ 40) (h1 : ¬ isCol c → Q (.inl (some (.int 0))) (hp (va_up I 26 1) A L O)) (h0 : ∀ j, j < 6 → c = nI j → Q (.inl (some (.int (mkd A n j)))) (hp (va_up I 26 0) A L O)) : Call X 154 [.ref 21, .int c] (hp I A L O) Q := by
  refine call_of (by decide) rfl rfl ?_
  refine a_aload_n (i := 0) q154_0 rfl rfl ?_
  refine a_iload_n (i := 1) q154_1 rfl rfl ?_
  refine a_cv1 q154_2 rfl rfl ⟨rfl, rfl⟩ rfl ?_
  refine c_X10_isNoColumn (fun zt2 => ?_) (fun zt2 => ?_)
  · skip
    refine ck_r ?_
    refine a_if_eq (tgt := 12) q154_5 (by decide) (fun zc5 => absurd zc5 (by decide)) (fun zc5 => ?_)
    refine a_iconst (v := 0) q154_8 (by decide) ?_
    refine a_goto (tgt := 17) q154_9 (by decide) ?_
    refine a_ireturn q154_17 (nr_int rfl _) ?_
    exact h1 zt2
  · skip
    refine ck_r ?_
    refine a_if_eq (tgt := 12) q154_5 (by decide) (fun zc5 => ?_) (fun zc5 => absurd (by decide) zc5)
    obtain ⟨j, hj, zr⟩ := isCol_of zt2
    subst zr
    refine a_aload_n (i := 0) q154_12 rfl rfl ?_
    refine a_iload_n (i := 1) q154_13 rfl rfl ?_
    refine a_cv1 q154_14 rfl rfl ⟨rfl, rfl⟩ rfl ?_
    refine c_X10_kindBy hn hn40 hj ?_
    refine ck_r ?_
    refine a_ireturn q154_17 (nr_int rfl _) ?_
    exact h0 j hj rfl

theorem c_X10_meanOf {X : XS} {I : Nat → Int32} {A : Nat → Nat → Int32} {L : Nat → Nat → Int64} {O : Nat → UInt64} {Q : AO → AH → Prop} {c : Int32} {n : Nat} (hn : I 20 = nI n) (hn40 : n ≤ 40) (h1 : ¬ isCol c → Q (.inl (some (.double FP.dconst0))) (hp (va_up I 26 1) A L O)) (h2 : ∀ j, j < 6 → c = nI j → stCnt (mv A j) n = 0 → Q (.inl (some (.double FP.dconst0))) (hp (va_up I 26 2) A L O)) (hne : ∀ j, j < 6 → c = nI j → ¬ stCnt (mv A j) n = 0 → vf_n64 (FP.ddiv (FP.l2d (stSum (mv A j) n)) (FP.i2d (stCnt (mv A j) n)))) (h0 : ∀ j, j < 6 → c = nI j → ¬ stCnt (mv A j) n = 0 → Q (.inl (some (.double (FP.ddiv (FP.l2d (stSum (mv A j) n)) (FP.i2d (stCnt (mv A j) n)))))) (hp (va_up I 26 0) A L O)) : Call X 150 [.ref 21, .int c] (hp I A L O) Q := by
  refine call_of (by decide) rfl rfl ?_
  refine a_aload_n (i := 0) q150_0 rfl rfl ?_
  refine a_iload_n (i := 1) q150_1 rfl rfl ?_
  refine a_cv1 q150_2 rfl rfl ⟨rfl, rfl⟩ rfl ?_
  refine c_X10_isNoColumn (fun zt2 => ?_) (fun zt2 => ?_)
  · skip
    refine ck_r ?_
    refine a_if_ne (tgt := 29) q150_5 (by decide) (fun zc5 => ?_) (fun zc5 => absurd zc5 (by decide))
    refine a_dconst0 q150_29 ?_
    refine a_goto (tgt := 46) q150_30 (by decide) ?_
    refine a_dreturn q150_46 rfl ?_
    exact h1 zt2
  · skip
    refine ck_r ?_
    refine a_if_ne (tgt := 29) q150_5 (by decide) (fun zc5 => absurd zc5 (by decide)) (fun zc5 => ?_)
    obtain ⟨j, hj, zr⟩ := isCol_of zt2
    subst zr
    refine a_aload_n (i := 0) q150_8 rfl rfl ?_
    refine AW.cut 22 (b2i (stCnt (mv A j) n = 0)) (fun zk22 => ?_) ?_
    · skip
      refine a_aload_n (i := 0) q150_9 rfl rfl ?_
      refine a_iload_n (i := 1) q150_10 rfl rfl ?_
      refine a_cv1 q150_11 rfl rfl ⟨rfl, rfl⟩ rfl ?_
      refine c_X10_many hn hn40 hj ?_
      refine ck_r ?_
      refine a_if_ne (tgt := 21) q150_14 (by decide) (fun zc14 => ?_) (fun zc14 => ?_)
      · skip
        refine a_iconst (v := 0) q150_21 (by decide) ?_
        exact cutv zk22 (b2i_f zc14)
      · skip
        refine a_iconst (v := 1) q150_17 (by decide) ?_
        refine a_goto (tgt := 22) q150_18 (by decide) ?_
        exact cutv zk22 (b2i_t zc14)
    refine a_iconst (v := 2) q150_22 (by decide) ?_
    refine a_cv2 q150_23 rfl rfl ⟨rfl, rfl⟩ rfl ?_
    refine c_X10_isThrown (fun zt23 => ?_) (fun zt23 => ?_)
    · skip
      refine ck_r ?_
      refine a_if_eq (tgt := 33) q150_26 (by decide) (fun zc26 => absurd zc26 (by decide)) (fun zc26 => ?_)
      refine a_dconst0 q150_29 ?_
      refine a_goto (tgt := 46) q150_30 (by decide) ?_
      refine a_dreturn q150_46 rfl ?_
      exact lfh (h2 j hj rfl zt23) rfl
    · skip
      refine ck_r ?_
      refine a_if_eq (tgt := 33) q150_26 (by decide) (fun zc26 => ?_) (fun zc26 => absurd (by decide) zc26)
      refine a_aload_n (i := 0) q150_33 rfl rfl ?_
      refine a_iload_n (i := 1) q150_34 rfl rfl ?_
      refine a_cv1 q150_35 rfl rfl ⟨rfl, rfl⟩ rfl ?_
      refine c_X10_sum hn hn40 hj ?_
      refine ck_r ?_
      refine a_l2d q150_38 ?_
      refine a_aload_n (i := 0) q150_39 rfl rfl ?_
      refine a_iload_n (i := 1) q150_40 rfl rfl ?_
      refine a_cv1 q150_41 rfl rfl ⟨rfl, rfl⟩ rfl ?_
      refine c_X10_many hn hn40 hj ?_
      refine ck_r ?_
      refine a_i2d q150_44 ?_
      refine a_ddiv q150_45 (hne j hj rfl zt23) ?_
      refine a_dreturn q150_46 rfl ?_
      exact lfh (h0 j hj rfl zt23) rfl

theorem c_X10_filled {X : XS} {I : Nat → Int32} {A : Nat → Nat → Int32} {L : Nat → Nat → Int64} {O : Nat → UInt64} {Q : AO → AH → Prop} {c : Int32} {n : Nat} (hn : I 20 = nI n) (hn40 : n ≤ 40) (h1 : ¬ isCol c → Q (.inl (some (.float FP.fconst0))) (hp (va_up I 26 1) A L O)) (h2 : ∀ j, j < 6 → c = nI j → n = 0 → Q (.inl (some (.float FP.fconst0))) (hp (va_up I 26 2) A L O)) (hne : ∀ j, j < 6 → c = nI j → ¬ n = 0 → vf_n32 (FP.fdiv (FP.i2f (stCnt (mv A j) n)) (FP.i2f (nI n)))) (h0 : ∀ j, j < 6 → c = nI j → ¬ n = 0 → Q (.inl (some (.float (FP.fdiv (FP.i2f (stCnt (mv A j) n)) (FP.i2f (nI n)))))) (hp (va_up I 26 0) A L O)) : Call X 151 [.ref 21, .int c] (hp I A L O) Q := by
  refine call_of (by decide) rfl rfl ?_
  refine a_aload_n (i := 0) q151_0 rfl rfl ?_
  refine a_iload_n (i := 1) q151_1 rfl rfl ?_
  refine a_cv1 q151_2 rfl rfl ⟨rfl, rfl⟩ rfl ?_
  refine c_X10_isNoColumn (fun zt2 => ?_) (fun zt2 => ?_)
  · skip
    refine ck_r ?_
    refine a_if_ne (tgt := 28) q151_5 (by decide) (fun zc5 => ?_) (fun zc5 => absurd zc5 (by decide))
    refine a_fconst0 q151_28 ?_
    refine a_goto (tgt := 44) q151_29 (by decide) ?_
    refine a_freturn q151_44 rfl ?_
    exact h1 zt2
  · skip
    refine ck_r ?_
    refine a_if_ne (tgt := 28) q151_5 (by decide) (fun zc5 => absurd zc5 (by decide)) (fun zc5 => ?_)
    obtain ⟨j, hj, zr⟩ := isCol_of zt2
    subst zr
    refine a_aload_n (i := 0) q151_8 rfl rfl ?_
    refine AW.cut 21 (b2i (n = 0)) (fun zk21 => ?_) ?_
    · skip
      refine a_aload_n (i := 0) q151_9 rfl rfl ?_
      refine a_getfield q151_10 rfl rfl ?_
      refine AW.ti hn ?_
      refine a_if_ne (tgt := 20) q151_13 (by decide) (fun zc13 => ?_) (fun zc13 => ?_)
      · skip
        refine a_iconst (v := 0) q151_20 (by decide) ?_
        exact cutv zk21 (b2i_f (fun zz => zc13 (by rw [zz]; rfl)))
      · skip
        refine a_iconst (v := 1) q151_16 (by decide) ?_
        refine a_goto (tgt := 21) q151_17 (by decide) ?_
        exact cutv zk21 (b2i_t ((nI_eq (b := 0) (by omega) (by decide)).mp zc13))
    refine a_iconst (v := 2) q151_21 (by decide) ?_
    refine a_cv2 q151_22 rfl rfl ⟨rfl, rfl⟩ rfl ?_
    refine c_X10_isThrown (fun zt22 => ?_) (fun zt22 => ?_)
    · skip
      refine ck_r ?_
      refine a_if_eq (tgt := 32) q151_25 (by decide) (fun zc25 => absurd zc25 (by decide)) (fun zc25 => ?_)
      refine a_fconst0 q151_28 ?_
      refine a_goto (tgt := 44) q151_29 (by decide) ?_
      refine a_freturn q151_44 rfl ?_
      exact lfh (h2 j hj rfl zt22) rfl
    · skip
      refine ck_r ?_
      refine a_if_eq (tgt := 32) q151_25 (by decide) (fun zc25 => ?_) (fun zc25 => absurd (by decide) zc25)
      refine a_aload_n (i := 0) q151_32 rfl rfl ?_
      refine a_iload_n (i := 1) q151_33 rfl rfl ?_
      refine a_cv1 q151_34 rfl rfl ⟨rfl, rfl⟩ rfl ?_
      refine c_X10_many hn hn40 hj ?_
      refine ck_r ?_
      refine a_i2f q151_37 ?_
      refine a_aload_n (i := 0) q151_38 rfl rfl ?_
      refine a_getfield q151_39 rfl rfl ?_
      refine AW.ti hn ?_
      refine a_i2f q151_42 ?_
      refine a_fdiv q151_43 (hne j hj rfl zt22) ?_
      refine a_freturn q151_44 rfl ?_
      exact lfh (h0 j hj rfl zt22) rfl

theorem c_X10_force {X : XS} {I : Nat → Int32} {A : Nat → Nat → Int32} {L : Nat → Nat → Int64} {O : Nat → UInt64} {Q : AO → AH → Prop} {c k : Int32} {n : Nat} (hn : I 20 = nI n) (hn40 : n ≤ 40) (h1 : ¬ isCol c → Q (.inl (some (.int 0))) (hp (va_up I 26 1) A L O)) (h2 : ∀ j, j < 6 → c = nI j → ¬ (k = 2 ∨ k = 3 ∨ k = 4) → Q (.inl (some (.int 0))) (hp (va_up I 26 2) A L O)) (h3 : ∀ j, j < 6 → c = nI j → (k = 2 ∨ k = 3 ∨ k = 4) → Q (.inl (some (.int (mkd (va_up A 23 (upd (A 23) j k)) n j)))) (hp (va_up (va_up I 26 0) 29 0) (va_up A 23 (upd (A 23) j k)) L O)) : Call X 155 [.ref 21, .int c, .int k] (hp I A L O) Q := by
  refine call_of (by decide) rfl rfl ?_
  refine a_aload_n (i := 0) q155_0 rfl rfl ?_
  refine a_iload_n (i := 1) q155_1 rfl rfl ?_
  refine a_cv1 q155_2 rfl rfl ⟨rfl, rfl⟩ rfl ?_
  refine c_X10_isNoColumn (fun zt2 => ?_) (fun zt2 => ?_)
  · skip
    refine ck_r ?_
    refine a_if_ne (tgt := 30) q155_5 (by decide) (fun zc5 => ?_) (fun zc5 => absurd zc5 (by decide))
    refine a_iconst (v := 0) q155_30 (by decide) ?_
    refine a_ireturn q155_31 (nr_int rfl _) ?_
    exact h1 zt2
  · skip
    refine ck_r ?_
    refine a_if_ne (tgt := 30) q155_5 (by decide) (fun zc5 => absurd zc5 (by decide)) (fun zc5 => ?_)
    obtain ⟨j, hj, zr⟩ := isCol_of zt2
    subst zr
    refine a_aload_n (i := 0) q155_8 rfl rfl ?_
    refine AW.cut 23 (b2i (¬ (k = 2 ∨ k = 3 ∨ k = 4))) (fun zk23 => ?_) ?_
    · skip
      refine a_iload_n (i := 2) q155_9 rfl rfl ?_
      refine a_iconst (v := 2) q155_10 (by decide) ?_
      refine a_iconst (v := 4) q155_11 (by decide) ?_
      refine a_cs3 q155_12 rfl ⟨rfl, rfl⟩ rfl ?_
      refine c_X10_isIn ?_
      refine ck_r ?_
      refine a_if_ne (tgt := 22) q155_15 (by decide) (fun zc15 => ?_) (fun zc15 => ?_)
      · skip
        refine a_iconst (v := 0) q155_22 (by decide) ?_
        exact cutv zk23 (by have zl := lits; unfold b2i; split <;> ((try simp only [b2i_z, Classical.not_not] at *) <;> ((try simp only [isCol, isChan, isMk, isVal, i_lt, i_le, i_eq] at *) <;> omega)))
      · skip
        refine a_iconst (v := 1) q155_18 (by decide) ?_
        refine a_goto (tgt := 23) q155_19 (by decide) ?_
        exact cutv zk23 (by have zl := lits; unfold b2i; split <;> ((try simp only [b2i_z, Classical.not_not] at *) <;> ((try simp only [isCol, isChan, isMk, isVal, i_lt, i_le, i_eq] at *) <;> omega)))
    refine a_iconst (v := 2) q155_23 (by decide) ?_
    refine a_cv2 q155_24 rfl rfl ⟨rfl, rfl⟩ rfl ?_
    refine c_X10_isThrown (fun zt24 => ?_) (fun zt24 => ?_)
    · skip
      refine ck_r ?_
      refine a_if_eq (tgt := 32) q155_27 (by decide) (fun zc27 => absurd zc27 (by decide)) (fun zc27 => ?_)
      refine a_iconst (v := 0) q155_30 (by decide) ?_
      refine a_ireturn q155_31 (nr_int rfl _) ?_
      exact lfh (h2 j hj rfl zt24) rfl
    · skip
      refine ck_r ?_
      refine a_if_eq (tgt := 32) q155_27 (by decide) (fun zc27 => ?_) (fun zc27 => absurd (by decide) zc27)
      refine a_aload_n (i := 0) q155_32 rfl rfl ?_
      refine a_iconst (v := 0) q155_33 (by decide) ?_
      refine a_putfield q155_34 rfl rfl rfl rfl ?_
      refine AW.hp (h' := hp (va_up (va_up I 26 0) 29 0) A L O) rfl ?_
      refine a_aload_n (i := 0) q155_37 rfl rfl ?_
      refine a_getfield q155_38 rfl rfl ?_
      refine a_iload_n (i := 1) q155_41 rfl rfl ?_
      refine a_iload_n (i := 2) q155_42 rfl rfl ?_
      refine a_iast' (j := j) q155_43 rfl rfl hj (by decide) (h' := hp (va_up (va_up I 26 0) 29 0) (va_up A 23 (upd (A 23) j k)) L O) rfl ?_
      refine a_aload_n (i := 0) q155_44 rfl rfl ?_
      refine a_iload_n (i := 1) q155_45 rfl rfl ?_
      refine a_cv1 q155_46 rfl rfl ⟨rfl, rfl⟩ rfl ?_
      refine c_X10_kindBy hn hn40 hj ?_
      refine ck_r ?_
      refine a_ireturn q155_49 (nr_int rfl _) ?_
      exact h3 j hj rfl (b2i_not zt24)

theorem c_X10_unforce {X : XS} {I : Nat → Int32} {A : Nat → Nat → Int32} {L : Nat → Nat → Int64} {O : Nat → UInt64} {Q : AO → AH → Prop} {c : Int32} {n : Nat} (hn : I 20 = nI n) (hn40 : n ≤ 40) (h1 : ¬ isCol c → Q (.inl (some (.int 0))) (hp (va_up I 26 1) A L O)) (h2 : ∀ j, j < 6 → c = nI j → A 23 j = 0 → Q (.inl (some (.int 0))) (hp (va_up I 26 2) A L O)) (h3 : ∀ j, j < 6 → c = nI j → ¬ A 23 j = 0 → Q (.inl (some (.int (mkd (va_up A 23 (upd (A 23) j 0)) n j)))) (hp (va_up (va_up I 26 0) 29 0) (va_up A 23 (upd (A 23) j 0)) L O)) : Call X 156 [.ref 21, .int c] (hp I A L O) Q := by
  refine call_of (by decide) rfl rfl ?_
  refine a_aload_n (i := 0) q156_0 rfl rfl ?_
  refine a_iload_n (i := 1) q156_1 rfl rfl ?_
  refine a_cv1 q156_2 rfl rfl ⟨rfl, rfl⟩ rfl ?_
  refine c_X10_isNoColumn (fun zt2 => ?_) (fun zt2 => ?_)
  · skip
    refine ck_r ?_
    refine a_if_ne (tgt := 30) q156_5 (by decide) (fun zc5 => ?_) (fun zc5 => absurd zc5 (by decide))
    refine a_iconst (v := 0) q156_30 (by decide) ?_
    refine a_ireturn q156_31 (nr_int rfl _) ?_
    exact h1 zt2
  · skip
    refine ck_r ?_
    refine a_if_ne (tgt := 30) q156_5 (by decide) (fun zc5 => absurd zc5 (by decide)) (fun zc5 => ?_)
    obtain ⟨j, hj, zr⟩ := isCol_of zt2
    subst zr
    refine a_aload_n (i := 0) q156_8 rfl rfl ?_
    refine AW.cut 23 (b2i (A 23 j = 0)) (fun zk23 => ?_) ?_
    · skip
      refine a_aload_n (i := 0) q156_9 rfl rfl ?_
      refine a_getfield q156_10 rfl rfl ?_
      refine a_iload_n (i := 1) q156_13 rfl rfl ?_
      refine a_iald' (j := j) q156_14 rfl rfl hj (by decide) ?_
      refine a_if_ne (tgt := 22) q156_15 (by decide) (fun zc15 => ?_) (fun zc15 => ?_)
      · skip
        refine a_iconst (v := 0) q156_22 (by decide) ?_
        exact cutv zk23 (b2i_f zc15)
      · skip
        refine a_iconst (v := 1) q156_18 (by decide) ?_
        refine a_goto (tgt := 23) q156_19 (by decide) ?_
        exact cutv zk23 (b2i_t zc15)
    refine a_iconst (v := 2) q156_23 (by decide) ?_
    refine a_cv2 q156_24 rfl rfl ⟨rfl, rfl⟩ rfl ?_
    refine c_X10_isThrown (fun zt24 => ?_) (fun zt24 => ?_)
    · skip
      refine ck_r ?_
      refine a_if_eq (tgt := 32) q156_27 (by decide) (fun zc27 => absurd zc27 (by decide)) (fun zc27 => ?_)
      refine a_iconst (v := 0) q156_30 (by decide) ?_
      refine a_ireturn q156_31 (nr_int rfl _) ?_
      exact lfh (h2 j hj rfl zt24) rfl
    · skip
      refine ck_r ?_
      refine a_if_eq (tgt := 32) q156_27 (by decide) (fun zc27 => ?_) (fun zc27 => absurd (by decide) zc27)
      refine a_aload_n (i := 0) q156_32 rfl rfl ?_
      refine a_iconst (v := 0) q156_33 (by decide) ?_
      refine a_putfield q156_34 rfl rfl rfl rfl ?_
      refine AW.hp (h' := hp (va_up (va_up I 26 0) 29 0) A L O) rfl ?_
      refine a_aload_n (i := 0) q156_37 rfl rfl ?_
      refine a_getfield q156_38 rfl rfl ?_
      refine a_iload_n (i := 1) q156_41 rfl rfl ?_
      refine a_iconst (v := 0) q156_42 (by decide) ?_
      refine a_iast' (j := j) q156_43 rfl rfl hj (by decide) (h' := hp (va_up (va_up I 26 0) 29 0) (va_up A 23 (upd (A 23) j 0)) L O) rfl ?_
      refine a_aload_n (i := 0) q156_44 rfl rfl ?_
      refine a_iload_n (i := 1) q156_45 rfl rfl ?_
      refine a_cv1 q156_46 rfl rfl ⟨rfl, rfl⟩ rfl ?_
      refine c_X10_kindBy hn hn40 hj ?_
      refine ck_r ?_
      refine a_ireturn q156_49 (nr_int rfl _) ?_
      exact h3 j hj rfl zt24

theorem l_mwish (m : Nat) : ∀ {X : XS} {I : Nat → Int32} {A : Nat → Nat → Int32} {L : Nat → Nat → Int64} {O : Nat → UInt64} {Q : AO → AH → Prop} {k : Nat} {c z : Int32} (hm : k + m = 6) (hq : Q (.inl (some (.int (cntB (A 27) 6)))) (hp I A L O)), AW X 157 27 [(0, .ref 21), (1, .int c), (2, .int z), (3, .int (cntB (A 27) k)), (4, .int (nI k))] [] (hp I A L O) 0 0 Q := by
  induction m with
  | zero =>
    intro X I A L O Q k c z hm hq
    refine a_iload q157_27 rfl ?_
    refine a_bipush (v := 6) q157_29 (by decide) ?_
    refine a_icmp_ge (tgt := 58) q157_31 (by decide) (fun zc31 => ?_) (fun zc31 => absurd (nI_le (show 6 ≤ k by omega) (by omega)) zc31)
    refine a_iload_n (i := 3) q157_58 rfl rfl ?_
    refine a_ireturn q157_59 (nr_int rfl _) ?_
    have zr : k = 6 := by omega
    subst zr
    exact hq
  | succ m ih =>
    intro X I A L O Q k c z hm hq
    refine a_iload q157_27 rfl ?_
    refine a_bipush (v := 6) q157_29 (by decide) ?_
    refine a_icmp_ge (tgt := 58) q157_31 (by decide) (fun zc31 => absurd zc31 (nI_ge (show k < 6 by omega) (by decide))) (fun zc31 => ?_)
    refine a_iload_n (i := 3) q157_34 rfl rfl ?_
    refine a_aload_n (i := 0) q157_35 rfl rfl ?_
    refine a_getfield q157_36 rfl rfl ?_
    refine a_iload q157_39 rfl ?_
    refine a_zald' q157_41 rfl (j := k) rfl (by omega) (by decide) ?_
    refine a_if_eq (tgt := 49) q157_42 (by decide) (fun zc42 => ?_) (fun zc42 => ?_)
    · skip
      refine a_iconst (v := 0) q157_49 (by decide) ?_
      refine a_iadd q157_50 ?_
      refine a_istore_n (i := 3) (lv' := [(0, _), (1, _), (2, _), (3, _), (4, _)]) q157_51 rfl rfl rfl ?_
      refine a_iinc (v := nI (k + 1)) (lv' := [(0, _), (1, _), (2, _), (3, _), (4, _)]) q157_52 rfl rfl (nI_1 (k)) rfl ?_
      refine a_goto (tgt := 27) q157_55 (by decide) ?_
      have zi := ih (X := X) (k := k + 1) (c := c) (z := z) (show k + 1 + m = 6 by omega) hq
      rw [show cntB (A 27) (k + 1) = cntB (A 27) k + 0 from if_pos zc42] at zi
      exact zi
    · skip
      refine a_iconst (v := 1) q157_45 (by decide) ?_
      refine a_goto (tgt := 50) q157_46 (by decide) ?_
      refine a_iadd q157_50 ?_
      refine a_istore_n (i := 3) (lv' := [(0, _), (1, _), (2, _), (3, _), (4, _)]) q157_51 rfl rfl rfl ?_
      refine a_iinc (v := nI (k + 1)) (lv' := [(0, _), (1, _), (2, _), (3, _), (4, _)]) q157_52 rfl rfl (nI_1 (k)) rfl ?_
      refine a_goto (tgt := 27) q157_55 (by decide) ?_
      have zi := ih (X := X) (k := k + 1) (c := c) (z := z) (show k + 1 + m = 6 by omega) hq
      rw [show cntB (A 27) (k + 1) = cntB (A 27) k + 1 from if_neg zc42] at zi
      exact zi

theorem c_X10_wish {X : XS} {I : Nat → Int32} {A : Nat → Nat → Int32} {L : Nat → Nat → Int64} {O : Nat → UInt64} {Q : AO → AH → Prop} {c z : Int32} (hz : z = 0 ∨ z = 1) (h1 : ¬ isCol c → Q (.inl (some (.int 0))) (hp (va_up I 26 1) A L O)) (h0 : ∀ j, j < 6 → c = nI j → Q (.inl (some (.int (cntB (upd (A 27) j z) 6)))) (hp (va_up (va_up I 26 0) 29 0) (va_up A 27 (upd (A 27) j z)) L O)) : Call X 157 [.ref 21, .int c, .int z] (hp I A L O) Q := by
  refine call_of (by decide) rfl rfl ?_
  refine a_aload_n (i := 0) q157_0 rfl rfl ?_
  refine a_iload_n (i := 1) q157_1 rfl rfl ?_
  refine a_cv1 q157_2 rfl rfl ⟨rfl, rfl⟩ rfl ?_
  refine c_X10_isNoColumn (fun zt2 => ?_) (fun zt2 => ?_)
  · skip
    refine ck_r ?_
    refine a_if_eq (tgt := 10) q157_5 (by decide) (fun zc5 => absurd zc5 (by decide)) (fun zc5 => ?_)
    refine a_iconst (v := 0) q157_8 (by decide) ?_
    refine a_ireturn q157_9 (nr_int rfl _) ?_
    exact h1 zt2
  · skip
    refine ck_r ?_
    refine a_if_eq (tgt := 10) q157_5 (by decide) (fun zc5 => ?_) (fun zc5 => absurd (by decide) zc5)
    obtain ⟨j, hj, zr⟩ := isCol_of zt2
    subst zr
    refine a_aload_n (i := 0) q157_10 rfl rfl ?_
    refine a_iconst (v := 0) q157_11 (by decide) ?_
    refine a_putfield q157_12 rfl rfl rfl rfl ?_
    refine AW.hp (h' := hp (va_up (va_up I 26 0) 29 0) A L O) rfl ?_
    refine a_aload_n (i := 0) q157_15 rfl rfl ?_
    refine a_getfield q157_16 rfl rfl ?_
    refine a_iload_n (i := 1) q157_19 rfl rfl ?_
    refine a_iload_n (i := 2) q157_20 rfl rfl ?_
    refine a_zast' (j := j) q157_21 rfl rfl hj (by decide) (z01 hz) (h' := hp (va_up (va_up I 26 0) 29 0) (va_up A 27 (upd (A 27) j z)) L O) rfl ?_
    refine a_iconst (v := 0) q157_22 (by decide) ?_
    refine a_istore_n (i := 3) (lv' := [(0, _), (1, _), (2, _), (3, _)]) q157_23 rfl rfl rfl ?_
    refine a_iconst (v := 0) q157_24 (by decide) ?_
    refine a_istore (i := 4) (lv' := [(0, _), (1, _), (2, _), (3, _), (4, _)]) q157_25 rfl rfl ?_
    exact l_mwish 6 (k := 0) (A := (va_up A 27 (upd (A 27) j z))) rfl (h0 j hj rfl)

theorem c_X10_wishMark {X : XS} {I : Nat → Int32} {A : Nat → Nat → Int32} {L : Nat → Nat → Int64} {O : Nat → UInt64} {Q : AO → AH → Prop} {m : Int32} (hm : narrow .char (.int m) = .int m) (hf : fits .char (.int m) = true) (hn4 : narrow .char (.int (I 27)) = .int (I 27)) (h1 : ¬ (isMk m ∨ m = 45) → Q (.inl (some (.int 45))) (hp (va_up I 26 1) A L O)) (h0 : (isMk m ∨ m = 45) → Q (.inl (some (.int (I 27)))) (hp (va_up (va_up (va_up I 26 0) 29 0) 27 m) A L O)) : Call X 159 [.ref 21, .int m] (hp I A L O) Q := by
  refine call_of (by decide) rfl rfl ?_
  refine a_aload_n (i := 0) q159_0 rfl rfl ?_
  refine AW.cut 19 (b2i (¬ (isMk m ∨ m = 45))) (fun zk19 => ?_) ?_
  · skip
    refine a_iload_n (i := 1) q159_1 rfl rfl ?_
    refine a_cs1 q159_2 rfl ⟨rfl, rfl⟩ rfl ?_
    refine c_X10_isMark ?_
    refine ck_r ?_
    refine a_if_ne (tgt := 18) q159_5 (by decide) (fun zc5 => ?_) (fun zc5 => ?_)
    · skip
      refine a_iconst (v := 0) q159_18 (by decide) ?_
      exact cutv zk19 (b2i_f (fun zz => zz (Or.inl (b2i_nz.mp zc5))))
    · skip
      refine a_iload_n (i := 1) q159_8 rfl rfl ?_
      refine a_bipush (v := 45) q159_9 (by decide) ?_
      refine a_icmp_eq (tgt := 18) q159_11 (by decide) (fun zc11 => ?_) (fun zc11 => ?_)
      · skip
        refine a_iconst (v := 0) q159_18 (by decide) ?_
        exact cutv zk19 (b2i_f (fun zz => zz (Or.inr zc11)))
      · skip
        refine a_iconst (v := 1) q159_14 (by decide) ?_
        refine a_goto (tgt := 19) q159_15 (by decide) ?_
        exact cutv zk19 (b2i_t (fun zz => zz.elim (b2i_z.mp zc5) zc11))
  refine a_iconst (v := 1) q159_19 (by decide) ?_
  refine a_cv2 q159_20 rfl rfl ⟨rfl, rfl⟩ rfl ?_
  refine c_X10_isThrown (fun zt20 => ?_) (fun zt20 => ?_)
  · skip
    refine ck_r ?_
    refine a_if_eq (tgt := 29) q159_23 (by decide) (fun zc23 => absurd zc23 (by decide)) (fun zc23 => ?_)
    refine a_bipush (v := 45) q159_26 (by decide) ?_
    refine a_ireturn q159_28 (nr_char rfl rfl) ?_
    exact h1 zt20
  · skip
    refine ck_r ?_
    refine a_if_eq (tgt := 29) q159_23 (by decide) (fun zc23 => ?_) (fun zc23 => absurd (by decide) zc23)
    refine a_aload_n (i := 0) q159_29 rfl rfl ?_
    refine a_getfield q159_30 rfl rfl ?_
    refine a_istore_n (i := 2) (lv' := [(0, _), (1, _), (2, _)]) q159_33 rfl rfl rfl ?_
    refine a_aload_n (i := 0) q159_34 rfl rfl ?_
    refine a_iconst (v := 0) q159_35 (by decide) ?_
    refine a_putfield q159_36 rfl rfl rfl rfl ?_
    refine AW.hp (h' := hp (va_up (va_up I 26 0) 29 0) A L O) rfl ?_
    refine a_aload_n (i := 0) q159_39 rfl rfl ?_
    refine a_iload_n (i := 1) q159_40 rfl rfl ?_
    refine a_putfield q159_41 rfl hm hf rfl ?_
    refine AW.hp (h' := hp (va_up (va_up (va_up I 26 0) 29 0) 27 m) A L O) rfl ?_
    refine a_iload_n (i := 2) q159_44 rfl rfl ?_
    refine a_ireturn q159_45 (nr_char rfl hn4) ?_
    exact h0 (b2i_not zt20)

theorem l_mforb (m : Nat) : ∀ {X : XS} {I : Nat → Int32} {A : Nat → Nat → Int32} {L : Nat → Nat → Int64} {O : Nat → UInt64} {Q : AO → AH → Prop} {k : Nat} {c k2 z : Int32} (hm : k + m = 24) (hq : Q (.inl (some (.int (cntB (A 28) 24)))) (hp I A L O)), AW X 160 82 [(0, .ref 21), (1, .int c), (2, .int k2), (3, .int z), (4, .int (cntB (A 28) k)), (5, .int (nI k))] [] (hp I A L O) 0 0 Q := by
  induction m with
  | zero =>
    intro X I A L O Q k c k2 z hm hq
    refine a_iload q160_82 rfl ?_
    refine a_bipush (v := 24) q160_84 (by decide) ?_
    refine a_icmp_ge (tgt := 115) q160_86 (by decide) (fun zc86 => ?_) (fun zc86 => absurd (nI_le (show 24 ≤ k by omega) (by omega)) zc86)
    refine a_iload q160_115 rfl ?_
    refine a_ireturn q160_117 (nr_int rfl _) ?_
    have zr : k = 24 := by omega
    subst zr
    exact hq
  | succ m ih =>
    intro X I A L O Q k c k2 z hm hq
    refine a_iload q160_82 rfl ?_
    refine a_bipush (v := 24) q160_84 (by decide) ?_
    refine a_icmp_ge (tgt := 115) q160_86 (by decide) (fun zc86 => absurd zc86 (nI_ge (show k < 24 by omega) (by decide))) (fun zc86 => ?_)
    refine a_iload q160_89 rfl ?_
    refine a_aload_n (i := 0) q160_91 rfl rfl ?_
    refine a_getfield q160_92 rfl rfl ?_
    refine a_iload q160_95 rfl ?_
    refine a_zald' q160_97 rfl (j := k) rfl (by omega) (by decide) ?_
    refine a_if_eq (tgt := 105) q160_98 (by decide) (fun zc98 => ?_) (fun zc98 => ?_)
    · skip
      refine a_iconst (v := 0) q160_105 (by decide) ?_
      refine a_iadd q160_106 ?_
      refine a_istore (i := 4) (lv' := [(0, _), (1, _), (2, _), (3, _), (4, _), (5, _)]) q160_107 rfl rfl ?_
      refine a_iinc (v := nI (k + 1)) (lv' := [(0, _), (1, _), (2, _), (3, _), (4, _), (5, _)]) q160_109 rfl rfl (nI_1 (k)) rfl ?_
      refine a_goto (tgt := 82) q160_112 (by decide) ?_
      have zi := ih (X := X) (k := k + 1) (c := c) (k2 := k2) (z := z) (show k + 1 + m = 24 by omega) hq
      rw [show cntB (A 28) (k + 1) = cntB (A 28) k + 0 from if_pos zc98] at zi
      exact zi
    · skip
      refine a_iconst (v := 1) q160_101 (by decide) ?_
      refine a_goto (tgt := 106) q160_102 (by decide) ?_
      refine a_iadd q160_106 ?_
      refine a_istore (i := 4) (lv' := [(0, _), (1, _), (2, _), (3, _), (4, _), (5, _)]) q160_107 rfl rfl ?_
      refine a_iinc (v := nI (k + 1)) (lv' := [(0, _), (1, _), (2, _), (3, _), (4, _), (5, _)]) q160_109 rfl rfl (nI_1 (k)) rfl ?_
      refine a_goto (tgt := 82) q160_112 (by decide) ?_
      have zi := ih (X := X) (k := k + 1) (c := c) (k2 := k2) (z := z) (show k + 1 + m = 24 by omega) hq
      rw [show cntB (A 28) (k + 1) = cntB (A 28) k + 1 from if_neg zc98] at zi
      exact zi

theorem c_X10_forbids {X : XS} {I : Nat → Int32} {A : Nat → Nat → Int32} {L : Nat → Nat → Int64} {O : Nat → UInt64} {Q : AO → AH → Prop} {c k z : Int32} (hz : z = 0 ∨ z = 1) (h1 : ¬ (isCol c ∧ isChan k) → Q (.inl (some (.int 0))) (hp (va_up I 26 1) A L O)) (h2 : ∀ i j, i < 6 → j < 4 → c = nI i → k = nI j → A 28 (4 * i + j) = z → Q (.inl (some (.int 0))) (hp (va_up I 26 2) A L O)) (h3 : ∀ i j, i < 6 → j < 4 → c = nI i → k = nI j → ¬ A 28 (4 * i + j) = z → Q (.inl (some (.int (cntB (upd (A 28) (4 * i + j) z) 24)))) (hp (va_up (va_up I 26 0) 29 0) (va_up A 28 (upd (A 28) (4 * i + j) z)) L O)) : Call X 160 [.ref 21, .int c, .int k, .int z] (hp I A L O) Q := by
  refine call_of (by decide) rfl rfl ?_
  refine a_aload_n (i := 0) q160_0 rfl rfl ?_
  refine AW.cut 24 (b2i (¬ (isCol c ∧ isChan k))) (fun zk24 => ?_) ?_
  · skip
    refine a_iload_n (i := 1) q160_1 rfl rfl ?_
    refine a_iconst (v := 0) q160_2 (by decide) ?_
    refine a_iconst (v := 5) q160_3 (by decide) ?_
    refine a_cs3 q160_4 rfl ⟨rfl, rfl⟩ rfl ?_
    refine c_X10_isIn (lfi (x := b2i (isCol c)) ?_ (by have zl := lits; unfold b2i; simp only [isCol]; split <;> split <;> ((try simp only [b2i_z, Classical.not_not] at *) <;> ((try simp only [isCol, isChan, isMk, isVal, i_lt, i_le, i_eq] at *) <;> omega))))
    refine ck_r ?_
    refine a_if_eq (tgt := 19) q160_7 (by decide) (fun zc7 => ?_) (fun zc7 => ?_)
    · skip
      refine a_iconst (v := 1) q160_19 (by decide) ?_
      refine a_goto (tgt := 24) q160_20 (by decide) ?_
      exact cutv zk24 (b2i_t (fun zz => b2i_z.mp zc7 zz.1))
    · skip
      refine a_iload_n (i := 2) q160_10 rfl rfl ?_
      refine a_iconst (v := 0) q160_11 (by decide) ?_
      refine a_iconst (v := 3) q160_12 (by decide) ?_
      refine a_cs3 q160_13 rfl ⟨rfl, rfl⟩ rfl ?_
      refine c_X10_isIn (lfi (x := b2i (isChan k)) ?_ (by have zl := lits; unfold b2i; simp only [isChan]; split <;> split <;> ((try simp only [b2i_z, Classical.not_not] at *) <;> ((try simp only [isCol, isChan, isMk, isVal, i_lt, i_le, i_eq] at *) <;> omega))))
      refine ck_r ?_
      refine a_if_ne (tgt := 23) q160_16 (by decide) (fun zc16 => ?_) (fun zc16 => ?_)
      · skip
        refine a_iconst (v := 0) q160_23 (by decide) ?_
        exact cutv zk24 (b2i_f (fun zz => zz ⟨b2i_nz.mp zc7, b2i_nz.mp zc16⟩))
      · skip
        refine a_iconst (v := 1) q160_19 (by decide) ?_
        refine a_goto (tgt := 24) q160_20 (by decide) ?_
        exact cutv zk24 (b2i_t (fun zz => b2i_z.mp zc16 zz.2))
  refine a_iconst (v := 1) q160_24 (by decide) ?_
  refine a_cv2 q160_25 rfl rfl ⟨rfl, rfl⟩ rfl ?_
  refine c_X10_isThrown (fun zt25 => ?_) (fun zt25 => ?_)
  · skip
    refine ck_r ?_
    refine a_if_ne (tgt := 58) q160_28 (by decide) (fun zc28 => ?_) (fun zc28 => absurd zc28 (by decide))
    refine a_iconst (v := 0) q160_58 (by decide) ?_
    refine a_ireturn q160_59 (nr_int rfl _) ?_
    exact lfh (h1 zt25) rfl
  · skip
    refine ck_r ?_
    refine a_if_ne (tgt := 58) q160_28 (by decide) (fun zc28 => absurd zc28 (by decide)) (fun zc28 => ?_)
    obtain ⟨i, hi, zri⟩ := isCol_of (b2i_not zt25).1
    obtain ⟨j, hj, zrj⟩ := isChan_of (b2i_not zt25).2
    subst zri
    subst zrj
    refine a_aload_n (i := 0) q160_31 rfl rfl ?_
    refine AW.cut 51 (b2i (A 28 (4 * i + j) = z)) (fun zk51 => ?_) ?_
    · skip
      refine a_aload_n (i := 0) q160_32 rfl rfl ?_
      refine a_getfield q160_33 rfl rfl ?_
      refine a_iconst (v := 4) q160_36 (by decide) ?_
      refine a_iload_n (i := 1) q160_37 rfl rfl ?_
      refine a_imul q160_38 ?_
      refine a_iload_n (i := 2) q160_39 rfl rfl ?_
      refine a_iadd q160_40 ?_
      refine a_zald' (j := 4 * i + j) q160_41 rfl (nI_ix4 i j) (by omega) (by decide) ?_
      refine a_iload_n (i := 3) q160_42 rfl rfl ?_
      refine a_icmp_ne (tgt := 50) q160_43 (by decide) (fun zc43 => ?_) (fun zc43 => ?_)
      · skip
        refine a_iconst (v := 0) q160_50 (by decide) ?_
        exact cutv zk51 (b2i_f zc43)
      · skip
        refine a_iconst (v := 1) q160_46 (by decide) ?_
        refine a_goto (tgt := 51) q160_47 (by decide) ?_
        exact cutv zk51 (b2i_t zc43)
    refine a_iconst (v := 2) q160_51 (by decide) ?_
    refine a_cv2 q160_52 rfl rfl ⟨rfl, rfl⟩ rfl ?_
    refine c_X10_isThrown (fun zt52 => ?_) (fun zt52 => ?_)
    · skip
      refine ck_r ?_
      refine a_if_eq (tgt := 60) q160_55 (by decide) (fun zc55 => absurd zc55 (by decide)) (fun zc55 => ?_)
      refine a_iconst (v := 0) q160_58 (by decide) ?_
      refine a_ireturn q160_59 (nr_int rfl _) ?_
      exact lfh (h2 i j hi hj rfl rfl zt52) rfl
    · skip
      refine ck_r ?_
      refine a_if_eq (tgt := 60) q160_55 (by decide) (fun zc55 => ?_) (fun zc55 => absurd (by decide) zc55)
      refine a_aload_n (i := 0) q160_60 rfl rfl ?_
      refine a_iconst (v := 0) q160_61 (by decide) ?_
      refine a_putfield q160_62 rfl rfl rfl rfl ?_
      refine AW.hp (h' := hp (va_up (va_up I 26 0) 29 0) A L O) rfl ?_
      refine a_aload_n (i := 0) q160_65 rfl rfl ?_
      refine a_getfield q160_66 rfl rfl ?_
      refine a_iconst (v := 4) q160_69 (by decide) ?_
      refine a_iload_n (i := 1) q160_70 rfl rfl ?_
      refine a_imul q160_71 ?_
      refine a_iload_n (i := 2) q160_72 rfl rfl ?_
      refine a_iadd q160_73 ?_
      refine a_iload_n (i := 3) q160_74 rfl rfl ?_
      refine a_zast' (j := 4 * i + j) q160_75 rfl (nI_ix4 i j) (by omega) (by decide) (z01 hz) (h' := hp (va_up (va_up I 26 0) 29 0) (va_up A 28 (upd (A 28) (4 * i + j) z)) L O) rfl ?_
      refine a_iconst (v := 0) q160_76 (by decide) ?_
      refine a_istore (i := 4) (lv' := [(0, _), (1, _), (2, _), (3, _), (4, _)]) q160_77 rfl rfl ?_
      refine a_iconst (v := 0) q160_79 (by decide) ?_
      refine a_istore (i := 5) (lv' := [(0, _), (1, _), (2, _), (3, _), (4, _), (5, _)]) q160_80 rfl rfl ?_
      exact l_mforb 24 (k := 0) (A := (va_up A 28 (upd (A 28) (4 * i + j) z))) rfl (h3 i j hi hj rfl rfl zt52)

theorem c_X10_forbid {X : XS} {I : Nat → Int32} {A : Nat → Nat → Int32} {L : Nat → Nat → Int64} {O : Nat → UInt64} {Q : AO → AH → Prop} {c k : Int32} (h1 : ¬ (isCol c ∧ isChan k) → Q (.inl (some (.int 0))) (hp (va_up I 26 1) A L O)) (h2 : ∀ i j, i < 6 → j < 4 → c = nI i → k = nI j → A 28 (4 * i + j) = 1 → Q (.inl (some (.int 0))) (hp (va_up I 26 2) A L O)) (h3 : ∀ i j, i < 6 → j < 4 → c = nI i → k = nI j → ¬ A 28 (4 * i + j) = 1 → Q (.inl (some (.int (cntB (upd (A 28) (4 * i + j) 1) 24)))) (hp (va_up (va_up I 26 0) 29 0) (va_up A 28 (upd (A 28) (4 * i + j) 1)) L O)) : Call X 161 [.ref 21, .int c, .int k] (hp I A L O) Q := by
  refine call_of (by decide) rfl rfl ?_
  refine a_aload_n (i := 0) q161_0 rfl rfl ?_
  refine a_iload_n (i := 1) q161_1 rfl rfl ?_
  refine a_iload_n (i := 2) q161_2 rfl rfl ?_
  refine a_iconst (v := 1) q161_3 (by decide) ?_
  refine a_cv3 q161_4 rfl rfl ⟨rfl, rfl⟩ rfl ?_
  refine c_X10_forbids (Or.inr rfl) (fun z1 => ?_) (fun i j hi hj e1 e2 z2 => ?_) (fun i j hi hj e1 e2 z2 => ?_)
  · refine ck_r ?_
    refine a_ireturn q161_7 (nr_int rfl _) ?_
    exact h1 z1
  · refine ck_r ?_
    refine a_ireturn q161_7 (nr_int rfl _) ?_
    exact h2 i j hi hj e1 e2 z2
  · refine ck_r ?_
    refine a_ireturn q161_7 (nr_int rfl _) ?_
    exact h3 i j hi hj e1 e2 z2

theorem c_X10_allow {X : XS} {I : Nat → Int32} {A : Nat → Nat → Int32} {L : Nat → Nat → Int64} {O : Nat → UInt64} {Q : AO → AH → Prop} {c k : Int32} (h1 : ¬ (isCol c ∧ isChan k) → Q (.inl (some (.int 0))) (hp (va_up I 26 1) A L O)) (h2 : ∀ i j, i < 6 → j < 4 → c = nI i → k = nI j → A 28 (4 * i + j) = 0 → Q (.inl (some (.int 0))) (hp (va_up I 26 2) A L O)) (h3 : ∀ i j, i < 6 → j < 4 → c = nI i → k = nI j → ¬ A 28 (4 * i + j) = 0 → Q (.inl (some (.int (cntB (upd (A 28) (4 * i + j) 0) 24)))) (hp (va_up (va_up I 26 0) 29 0) (va_up A 28 (upd (A 28) (4 * i + j) 0)) L O)) : Call X 162 [.ref 21, .int c, .int k] (hp I A L O) Q := by
  refine call_of (by decide) rfl rfl ?_
  refine a_aload_n (i := 0) q162_0 rfl rfl ?_
  refine a_iload_n (i := 1) q162_1 rfl rfl ?_
  refine a_iload_n (i := 2) q162_2 rfl rfl ?_
  refine a_iconst (v := 0) q162_3 (by decide) ?_
  refine a_cv3 q162_4 rfl rfl ⟨rfl, rfl⟩ rfl ?_
  refine c_X10_forbids (Or.inl rfl) (fun z1 => ?_) (fun i j hi hj e1 e2 z2 => ?_) (fun i j hi hj e1 e2 z2 => ?_)
  · refine ck_r ?_
    refine a_ireturn q162_7 (nr_int rfl _) ?_
    exact h1 z1
  · refine ck_r ?_
    refine a_ireturn q162_7 (nr_int rfl _) ?_
    exact h2 i j hi hj e1 e2 z2
  · refine ck_r ?_
    refine a_ireturn q162_7 (nr_int rfl _) ?_
    exact h3 i j hi hj e1 e2 z2

theorem c_X10_setWeight {X : XS} {I : Nat → Int32} {A : Nat → Nat → Int32} {L : Nat → Nat → Int64} {O : Nat → UInt64} {Q : AO → AH → Prop} {r w : Int32} (h1 : ¬ isRule r → Q (.inl (some (.int 0))) (hp (va_up I 26 1) A L O)) (h2 : isRule r → ¬ (0 ≤ w ∧ w ≤ 99) → Q (.inl (some (.int 0))) (hp (va_up I 26 2) A L O)) (h3 : ∀ j, j < 8 → r = nI j → (0 ≤ w ∧ w ≤ 99) → Q (.inl (some (.int (A 24 j)))) (hp (va_up (va_up I 26 0) 29 0) (va_up A 24 (upd (A 24) j w)) L O)) : Call X 163 [.ref 21, .int r, .int w] (hp I A L O) Q := by
  refine call_of (by decide) rfl rfl ?_
  refine a_aload_n (i := 0) q163_0 rfl rfl ?_
  refine AW.cut 16 (b2i (¬ isRule r)) (fun zk16 => ?_) ?_
  · skip
    refine a_iload_n (i := 1) q163_1 rfl rfl ?_
    refine a_iconst (v := 0) q163_2 (by decide) ?_
    refine a_bipush (v := 7) q163_3 (by decide) ?_
    refine a_cs3 q163_5 rfl ⟨rfl, rfl⟩ rfl ?_
    refine c_X10_isIn (lfi (x := b2i (isRule r)) ?_ (by have zl := lits; unfold b2i; simp only [isRule]; split <;> split <;> ((try simp only [b2i_z, Classical.not_not] at *) <;> ((try simp only [isCol, isChan, isMk, isVal, i_lt, i_le, i_eq] at *) <;> omega))))
    refine ck_r ?_
    refine a_if_ne (tgt := 15) q163_8 (by decide) (fun zc8 => ?_) (fun zc8 => ?_)
    · skip
      refine a_iconst (v := 0) q163_15 (by decide) ?_
      exact cutv zk16 (b2i_f (fun zz => zz (b2i_nz.mp zc8)))
    · skip
      refine a_iconst (v := 1) q163_11 (by decide) ?_
      refine a_goto (tgt := 16) q163_12 (by decide) ?_
      exact cutv zk16 (b2i_t (b2i_z.mp zc8))
  refine a_iconst (v := 1) q163_16 (by decide) ?_
  refine a_cv2 q163_17 rfl rfl ⟨rfl, rfl⟩ rfl ?_
  refine c_X10_isThrown (fun zt17 => ?_) (fun zt17 => ?_)
  · skip
    refine ck_r ?_
    refine a_if_ne (tgt := 46) q163_20 (by decide) (fun zc20 => ?_) (fun zc20 => absurd zc20 (by decide))
    refine a_iconst (v := 0) q163_46 (by decide) ?_
    refine a_ireturn q163_47 (nr_int rfl _) ?_
    exact lfh (h1 zt17) rfl
  · skip
    refine ck_r ?_
    refine a_if_ne (tgt := 46) q163_20 (by decide) (fun zc20 => absurd zc20 (by decide)) (fun zc20 => ?_)
    refine a_aload_n (i := 0) q163_23 rfl rfl ?_
    refine AW.cut 39 (b2i (¬ (0 ≤ w ∧ w ≤ 99))) (fun zk39 => ?_) ?_
    · skip
      refine a_iload_n (i := 2) q163_24 rfl rfl ?_
      refine a_iconst (v := 0) q163_25 (by decide) ?_
      refine a_bipush (v := 99) q163_26 (by decide) ?_
      refine a_cs3 q163_28 rfl ⟨rfl, rfl⟩ rfl ?_
      refine c_X10_isIn ?_
      refine ck_r ?_
      refine a_if_ne (tgt := 38) q163_31 (by decide) (fun zc31 => ?_) (fun zc31 => ?_)
      · skip
        refine a_iconst (v := 0) q163_38 (by decide) ?_
        exact cutv zk39 (b2i_f (fun zz => zz (b2i_nz.mp zc31)))
      · skip
        refine a_iconst (v := 1) q163_34 (by decide) ?_
        refine a_goto (tgt := 39) q163_35 (by decide) ?_
        exact cutv zk39 (b2i_t (b2i_z.mp zc31))
    refine a_iconst (v := 2) q163_39 (by decide) ?_
    refine a_cv2 q163_40 rfl rfl ⟨rfl, rfl⟩ rfl ?_
    refine c_X10_isThrown (fun zt40 => ?_) (fun zt40 => ?_)
    · skip
      refine ck_r ?_
      refine a_if_eq (tgt := 48) q163_43 (by decide) (fun zc43 => absurd zc43 (by decide)) (fun zc43 => ?_)
      refine a_iconst (v := 0) q163_46 (by decide) ?_
      refine a_ireturn q163_47 (nr_int rfl _) ?_
      exact lfh (h2 (b2i_not zt17) zt40) rfl
    · skip
      refine ck_r ?_
      refine a_if_eq (tgt := 48) q163_43 (by decide) (fun zc43 => ?_) (fun zc43 => absurd (by decide) zc43)
      obtain ⟨j, hj, zr⟩ := isRule_of (b2i_not zt17)
      subst zr
      refine a_aload_n (i := 0) q163_48 rfl rfl ?_
      refine a_getfield q163_49 rfl rfl ?_
      refine a_iload_n (i := 1) q163_52 rfl rfl ?_
      refine a_iald' (j := j) q163_53 rfl rfl hj (by decide) ?_
      refine a_istore_n (i := 3) (lv' := [(0, _), (1, _), (2, _), (3, _)]) q163_54 rfl rfl rfl ?_
      refine a_aload_n (i := 0) q163_55 rfl rfl ?_
      refine a_iconst (v := 0) q163_56 (by decide) ?_
      refine a_putfield q163_57 rfl rfl rfl rfl ?_
      refine AW.hp (h' := hp (va_up (va_up I 26 0) 29 0) A L O) rfl ?_
      refine a_aload_n (i := 0) q163_60 rfl rfl ?_
      refine a_getfield q163_61 rfl rfl ?_
      refine a_iload_n (i := 1) q163_64 rfl rfl ?_
      refine a_iload_n (i := 2) q163_65 rfl rfl ?_
      refine a_iast' (j := j) q163_66 rfl rfl hj (by decide) (h' := hp (va_up (va_up I 26 0) 29 0) (va_up A 24 (upd (A 24) j w)) L O) rfl ?_
      refine a_iload_n (i := 3) q163_67 rfl rfl ?_
      refine a_ireturn q163_68 (nr_int rfl _) ?_
      exact h3 j hj rfl (b2i_not zt40)

theorem c_X10_setMargin {X : XS} {I : Nat → Int32} {A : Nat → Nat → Int32} {L : Nat → Nat → Int64} {O : Nat → UInt64} {Q : AO → AH → Prop} {m : Int32} (h1 : ¬ (0 ≤ m ∧ m ≤ 99) → Q (.inl (some (.int 0))) (hp (va_up I 26 1) A L O)) (h0 : (0 ≤ m ∧ m ≤ 99) → Q (.inl (some (.int (I 23)))) (hp (va_up (va_up I 26 0) 23 m) A L O)) : Call X 184 [.ref 21, .int m] (hp I A L O) Q := by
  refine call_of (by decide) rfl rfl ?_
  refine a_aload_n (i := 0) q184_0 rfl rfl ?_
  refine AW.cut 16 (b2i (¬ (0 ≤ m ∧ m ≤ 99))) (fun zk16 => ?_) ?_
  · skip
    refine a_iload_n (i := 1) q184_1 rfl rfl ?_
    refine a_iconst (v := 0) q184_2 (by decide) ?_
    refine a_bipush (v := 99) q184_3 (by decide) ?_
    refine a_cs3 q184_5 rfl ⟨rfl, rfl⟩ rfl ?_
    refine c_X10_isIn ?_
    refine ck_r ?_
    refine a_if_ne (tgt := 15) q184_8 (by decide) (fun zc8 => ?_) (fun zc8 => ?_)
    · skip
      refine a_iconst (v := 0) q184_15 (by decide) ?_
      exact cutv zk16 (b2i_f (fun zz => zz (b2i_nz.mp zc8)))
    · skip
      refine a_iconst (v := 1) q184_11 (by decide) ?_
      refine a_goto (tgt := 16) q184_12 (by decide) ?_
      exact cutv zk16 (b2i_t (b2i_z.mp zc8))
  refine a_iconst (v := 1) q184_16 (by decide) ?_
  refine a_cv2 q184_17 rfl rfl ⟨rfl, rfl⟩ rfl ?_
  refine c_X10_isThrown (fun zt17 => ?_) (fun zt17 => ?_)
  · skip
    refine ck_r ?_
    refine a_if_eq (tgt := 25) q184_20 (by decide) (fun zc20 => absurd zc20 (by decide)) (fun zc20 => ?_)
    refine a_iconst (v := 0) q184_23 (by decide) ?_
    refine a_ireturn q184_24 (nr_int rfl _) ?_
    exact h1 zt17
  · skip
    refine ck_r ?_
    refine a_if_eq (tgt := 25) q184_20 (by decide) (fun zc20 => ?_) (fun zc20 => absurd (by decide) zc20)
    refine a_aload_n (i := 0) q184_25 rfl rfl ?_
    refine a_getfield q184_26 rfl rfl ?_
    refine a_istore_n (i := 2) (lv' := [(0, _), (1, _), (2, _)]) q184_29 rfl rfl rfl ?_
    refine a_aload_n (i := 0) q184_30 rfl rfl ?_
    refine a_iload_n (i := 1) q184_31 rfl rfl ?_
    refine a_putfield q184_32 rfl rfl rfl rfl ?_
    refine AW.hp (h' := hp (va_up (va_up I 26 0) 23 m) A L O) rfl ?_
    refine a_iload_n (i := 2) q184_35 rfl rfl ?_
    refine a_ireturn q184_36 (nr_int rfl _) ?_
    exact h0 (b2i_not zt17)

def kndA (A : Nat → Nat → Int32) (n : Nat) : Nat → Nat → Nat → Int32
  | 0 => A
  | c + 1 => va_up (va_up (kndA A n c) 25 (upd ((kndA A n c) 25) c (mkd (kndA A n c) n c))) 26 (upd ((va_up (kndA A n c) 25 (upd ((kndA A n c) 25) c (mkd (kndA A n c) n c))) 26) c (stDif (mv (va_up (kndA A n c) 25 (upd ((kndA A n c) 25) c (mkd (kndA A n c) n c))) c) n))
theorem l_kinds (m : Nat) : ∀ {X : XS} {I : Nat → Int32} {A : Nat → Nat → Int32} {L : Nat → Nat → Int64} {O : Nat → UInt64} {Q : AO → AH → Prop} {c n : Nat} (hn : I 20 = nI n) (hn40 : n ≤ 40) (hm : c + m = 6) (hq : Q (.inl none) (hp I (kndA A n 6) L O)), AW X 164 2 [(0, .ref 21), (1, .int (nI c))] [] (hp I (kndA A n c) L O) 0 0 Q := by
  induction m with
  | zero =>
    intro X I A L O Q c n hn hn40 hm hq
    refine a_iload_n (i := 1) q164_2 rfl rfl ?_
    refine a_bipush (v := 6) q164_3 (by decide) ?_
    refine a_icmp_ge (tgt := 36) q164_5 (by decide) (fun zc5 => ?_) (fun zc5 => absurd (nI_le (show 6 ≤ c by omega) (by omega)) zc5)
    refine a_return q164_36 rfl ?_
    have zr : c = 6 := by omega
    subst zr
    exact hq
  | succ m ih =>
    intro X I A L O Q c n hn hn40 hm hq
    refine a_iload_n (i := 1) q164_2 rfl rfl ?_
    refine a_bipush (v := 6) q164_3 (by decide) ?_
    refine a_icmp_ge (tgt := 36) q164_5 (by decide) (fun zc5 => absurd zc5 (nI_ge (show c < 6 by omega) (by decide))) (fun zc5 => ?_)
    refine a_aload_n (i := 0) q164_8 rfl rfl ?_
    refine a_getfield q164_9 rfl rfl ?_
    refine a_iload_n (i := 1) q164_12 rfl rfl ?_
    refine a_aload_n (i := 0) q164_13 rfl rfl ?_
    refine a_iload_n (i := 1) q164_14 rfl rfl ?_
    refine a_cv1 q164_15 rfl rfl ⟨rfl, rfl⟩ rfl ?_
    refine c_X10_kindBy hn hn40 (by omega) ?_
    refine ck_r ?_
    refine a_iast' (j := c) q164_18 rfl rfl (by omega) (by decide) (h' := hp I (va_up (kndA A n c) 25 (upd ((kndA A n c) 25) c (mkd (kndA A n c) n c))) L O) rfl ?_
    refine a_aload_n (i := 0) q164_19 rfl rfl ?_
    refine a_getfield q164_20 rfl rfl ?_
    refine a_iload_n (i := 1) q164_23 rfl rfl ?_
    refine a_aload_n (i := 0) q164_24 rfl rfl ?_
    refine a_iload_n (i := 1) q164_25 rfl rfl ?_
    refine a_cv1 q164_26 rfl rfl ⟨rfl, rfl⟩ rfl ?_
    refine c_X10_unlike hn hn40 (by omega) ?_
    refine ck_r ?_
    refine a_iast' (j := c) q164_29 rfl rfl (by omega) (by decide) (h' := hp I (kndA A n (c + 1)) L O) rfl ?_
    refine a_iinc (v := nI (c + 1)) (lv' := [(0, _), (1, _)]) q164_30 rfl rfl (nI_1 (c)) rfl ?_
    refine a_goto (tgt := 2) q164_33 (by decide) ?_
    exact ih hn hn40 (show c + 1 + m = 6 by omega) hq

theorem c_X10_kinds {X : XS} {I : Nat → Int32} {A : Nat → Nat → Int32} {L : Nat → Nat → Int64} {O : Nat → UInt64} {Q : AO → AH → Prop} {n : Nat} (hn : I 20 = nI n) (hn40 : n ≤ 40) (hq : Q (.inl none) (hp I (kndA A n 6) L O)) : Call X 164 [.ref 21] (hp I A L O) Q := by
  refine call_of (by decide) rfl rfl ?_
  refine a_iconst (v := 0) q164_0 (by decide) ?_
  refine a_istore_n (i := 1) (lv' := [(0, _), (1, _)]) q164_1 rfl rfl rfl ?_
  exact l_kinds 6 (c := 0) hn hn40 rfl hq

def g_named (x : Int32) : Int32 := if x = 0 then 98 else if x = 1 then 108 else 112
theorem c_X10_named {X : XS} {h : AH} {Q : AO → AH → Prop} {x : Int32} (hq : Q (.inl (some (.int (g_named x)))) h) : Call X 179 [.int x] h Q := by
  refine call_of (by decide) rfl rfl ?_
  refine a_iload_n (i := 0) q179_0 rfl rfl ?_
  refine a_if_ne (tgt := 9) q179_1 (by decide) (fun zc1 => ?_) (fun zc1 => ?_)
  · skip
    refine a_iload_n (i := 0) q179_9 rfl rfl ?_
    refine a_iconst (v := 1) q179_10 (by decide) ?_
    refine a_icmp_ne (tgt := 19) q179_11 (by decide) (fun zc11 => ?_) (fun zc11 => ?_)
    · skip
      refine a_bipush (v := 112) q179_19 (by decide) ?_
      refine a_ireturn q179_21 (nr_char rfl rfl) ?_
      exact lfi hq (by unfold g_named; rw [if_neg zc1, if_neg zc11])
    · skip
      refine a_bipush (v := 108) q179_14 (by decide) ?_
      refine a_goto (tgt := 21) q179_16 (by decide) ?_
      refine a_ireturn q179_21 (nr_char rfl rfl) ?_
      exact lfi hq (by unfold g_named; rw [if_neg zc1, if_pos zc11])
  · skip
    refine a_bipush (v := 98) q179_4 (by decide) ?_
    refine a_goto (tgt := 21) q179_6 (by decide) ?_
    refine a_ireturn q179_21 (nr_char rfl rfl) ?_
    exact lfi hq (by unfold g_named; rw [if_pos zc1])

theorem c_X10_isSound {X : XS} {I : Nat → Int32} {A : Nat → Nat → Int32} {L : Nat → Nat → Int64} {O : Nat → UInt64} {Q : AO → AH → Prop}  (hq : Q (.inl (some (.int 1))) (hp (va_up I 26 0) A L O)) : Call X 200 [.ref 21] (hp I A L O) Q := by
  refine call_of (by decide) rfl rfl ?_
  refine a_aload_n (i := 0) q200_0 rfl rfl ?_
  refine a_iconst (v := 0) q200_1 (by decide) ?_
  refine a_putfield q200_2 rfl rfl rfl rfl ?_
  refine a_iconst (v := 1) q200_5 (by decide) ?_
  refine a_ireturn q200_6 (nr_bool rfl (by decide)) ?_
  exact lfh hq rfl

theorem c_X10_formerPicks {X : XS} {I : Nat → Int32} {A : Nat → Nat → Int32} {L : Nat → Nat → Int64} {O : Nat → UInt64} {Q : AO → AH → Prop}  (hq : Q (.inl (some (.int (I 21)))) (hp (va_up I 26 0) A L O)) : Call X 189 [.ref 21] (hp I A L O) Q := by
  refine call_of (by decide) rfl rfl ?_
  refine a_aload_n (i := 0) q189_0 rfl rfl ?_
  refine a_iconst (v := 0) q189_1 (by decide) ?_
  refine a_putfield q189_2 rfl rfl rfl rfl ?_
  refine a_aload_n (i := 0) q189_5 rfl rfl ?_
  refine a_getfield q189_6 rfl rfl ?_
  refine a_ireturn q189_9 (nr_int rfl _) ?_
  exact lfh hq rfl
