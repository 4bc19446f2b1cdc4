/-! the model's calls on ranking, picks and draft -/
theorem nc_named (x : Int32) : narrow .char (.int (g_named x)) = .int (g_named x) := by unfold g_named; (repeat' split) <;> rfl
theorem mkA_30 (I : Nat → Int32) (n : Nat) (A : Nat → Nat → Int32) : mkA I n A 30 = A 30 := by unfold mkA; split <;> rfl
theorem mkA_31 (I : Nat → Int32) (n : Nat) (A : Nat → Nat → Int32) : mkA I n A 31 = A 31 := by unfold mkA; split <;> rfl
theorem mkA_34 (I : Nat → Int32) (n : Nat) (A : Nat → Nat → Int32) : mkA I n A 34 = A 34 := by unfold mkA; split <;> rfl
theorem mkI_o (I : Nat → Int32) (n : Nat) (A : Nat → Nat → Int32) (j : Nat) (h : ¬ j = 22 ∧ ¬ j = 24 ∧ ¬ j = 25 ∧ ¬ j = 29) : mkI I n A j = I j := by
  unfold mkI; split
  · simp only [va_up, if_neg h.1, if_neg h.2.1, if_neg h.2.2.1, if_neg h.2.2.2]
  · rfl
theorem nI_ixc (j i : Nat) : ((6 : Int32) * nI j + 2) + nI i = nI (6 * j + 2 + i) := by
  rw [nI_6, show nI (6 * j) + (2 : Int32) = nI (6 * j + 2) from nI_add (6 * j) 2, nI_add]
theorem nI_x1 (m : Nat) : nI m + Int32.ofInt (-1) = xI m := by
  cases m with
  | zero => decide
  | succ m => rw [show nI (m + 1) + Int32.ofInt (-1) = nI m from pk_m1 m]; exact (nI_pred m).symm
theorem c_X10_isNoRank {X : XS} {I : Nat → Int32} {A : Nat → Nat → Int32} {L : Nat → Nat → Int64} {O : Nat → UInt64} {Q : AO → AH → Prop} {r a : Int32} {n : Nat} (hn : I 20 = nI n) (hn40 : n ≤ 40) (hg : vch (A 30)) {k : Nat} (hk : mkI I n A 22 = nI k) (hk5 : k ≤ 5) (h1 : ¬ inRow k r → Q (.inl (some (.int 1))) (hp (va_up (mkI I n A) 26 a) (mkA I n A) L O)) (h0 : inRow k r → Q (.inl (some (.int 0))) (hp (va_up (mkI I n A) 26 0) (mkA I n A) L O)) : Call X 176 [.ref 21, .int r, .int a] (hp I A L O) Q := by
  refine call_of (by decide) rfl rfl ?_
  refine a_aload_n (i := 0) q176_0 rfl rfl ?_
  refine a_cv0 q176_1 rfl rfl ⟨rfl, rfl⟩ rfl ?_
  refine c_X10_makes hn hn40 hg ?_
  refine ck_v ?_
  refine a_aload_n (i := 0) q176_4 rfl rfl ?_
  refine AW.cut 24 (b2i (¬ inRow k r)) (fun zk24 => ?_) ?_
  · skip
    refine a_iload_n (i := 1) q176_5 rfl rfl ?_
    refine a_iconst (v := 0) q176_6 (by decide) ?_
    refine a_aload_n (i := 0) q176_7 rfl rfl ?_
    refine a_getfield q176_8 rfl rfl ?_
    refine a_iconst (v := 1) q176_11 (by decide) ?_
    refine a_isub q176_12 ?_
    refine AW.ti (show (mkI I n A) 22 - 1 = nI k - 1 by rw [hk]) ?_
    refine a_cs3 q176_13 rfl ⟨rfl, rfl⟩ rfl ?_
    refine c_X10_isIn (lfi (x := b2i (inRow k r)) ?_ (by unfold b2i; simp only [inRow, le_m1 (show k ≤ 40 by omega)]))
    refine ck_r ?_
    refine a_if_ne (tgt := 23) q176_16 (by decide) (fun zc16 => ?_) (fun zc16 => ?_)
    · skip
      refine a_iconst (v := 0) q176_23 (by decide) ?_
      exact cutv zk24 (b2i_f (fun zz => zz (b2i_nz.mp zc16)))
    · skip
      refine a_iconst (v := 1) q176_19 (by decide) ?_
      refine a_goto (tgt := 24) q176_20 (by decide) ?_
      exact cutv zk24 (b2i_t (b2i_z.mp zc16))
  refine a_iload_n (i := 2) q176_24 rfl rfl ?_
  refine a_cv2 q176_25 rfl rfl ⟨rfl, rfl⟩ rfl ?_
  refine c_X10_isThrown (fun zt25 => ?_) (fun zt25 => ?_)
  · skip
    refine ck_r ?_
    refine a_ireturn q176_28 (nr_bool rfl (by decide)) ?_
    exact h1 zt25
  · skip
    refine ck_r ?_
    refine a_ireturn q176_28 (nr_bool rfl (by decide)) ?_
    exact h0 (b2i_not zt25)

theorem c_X10_cost {X : XS} {I : Nat → Int32} {A : Nat → Nat → Int32} {L : Nat → Nat → Int64} {O : Nat → UInt64} {Q : AO → AH → Prop} {r : Int32} {n : Nat} (hn : I 20 = nI n) (hn40 : n ≤ 40) (hg : vch (A 30)) {k : Nat} (hk : mkI I n A 22 = nI k) (hk5 : k ≤ 5) (h1 : ¬ inRow k r → Q (.inl (some (.int 0))) (hp (va_up (mkI I n A) 26 1) (mkA I n A) L O)) (h0 : ∀ j, j < k → r = nI j → Q (.inl (some (.int ((mkA I n A) 33 j)))) (hp (va_up (mkI I n A) 26 0) (mkA I n A) L O)) : Call X 177 [.ref 21, .int r] (hp I A L O) Q := by
  refine call_of (by decide) rfl rfl ?_
  refine a_aload_n (i := 0) q177_0 rfl rfl ?_
  refine a_iload_n (i := 1) q177_1 rfl rfl ?_
  refine a_iconst (v := 1) q177_2 (by decide) ?_
  refine a_cv2 q177_3 rfl rfl ⟨rfl, rfl⟩ rfl ?_
  refine c_X10_isNoRank hn hn40 hg hk hk5 (fun zt3 => ?_) (fun zt3 => ?_)
  · skip
    refine ck_r ?_
    refine a_if_eq (tgt := 13) q177_6 (by decide) (fun zc6 => absurd zc6 (by decide)) (fun zc6 => ?_)
    refine a_iconst (v := 0) q177_9 (by decide) ?_
    refine a_goto (tgt := 19) q177_10 (by decide) ?_
    refine a_ireturn q177_19 (nr_int rfl _) ?_
    exact h1 zt3
  · skip
    refine ck_r ?_
    refine a_if_eq (tgt := 13) q177_6 (by decide) (fun zc6 => ?_) (fun zc6 => absurd (by decide) zc6)
    obtain ⟨j, hj, zr⟩ := inRow_of (show k ≤ 40 by omega) zt3
    subst zr
    refine a_aload_n (i := 0) q177_13 rfl rfl ?_
    refine a_getfield q177_14 rfl rfl ?_
    refine a_iload_n (i := 1) q177_17 rfl rfl ?_
    refine a_iald' (j := j) q177_18 rfl rfl (by omega) (by decide) ?_
    refine a_ireturn q177_19 (nr_int rfl _) ?_
    exact h0 j hj rfl

theorem c_X10_mark {X : XS} {I : Nat → Int32} {A : Nat → Nat → Int32} {L : Nat → Nat → Int64} {O : Nat → UInt64} {Q : AO → AH → Prop} {r : Int32} {n : Nat} (hn : I 20 = nI n) (hn40 : n ≤ 40) (hg : vch (A 30)) {k : Nat} (hk : mkI I n A 22 = nI k) (hk5 : k ≤ 5) (h1 : ¬ inRow k r → Q (.inl (some (.int 45))) (hp (va_up (mkI I n A) 26 1) (mkA I n A) L O)) (h0 : ∀ j, j < k → r = nI j → Q (.inl (some (.int (g_named ((mkA I n A) 32 (6 * j)))))) (hp (va_up (mkI I n A) 26 0) (mkA I n A) L O)) : Call X 180 [.ref 21, .int r] (hp I A L O) Q := by
  refine call_of (by decide) rfl rfl ?_
  refine a_aload_n (i := 0) q180_0 rfl rfl ?_
  refine a_iload_n (i := 1) q180_1 rfl rfl ?_
  refine a_iconst (v := 1) q180_2 (by decide) ?_
  refine a_cv2 q180_3 rfl rfl ⟨rfl, rfl⟩ rfl ?_
  refine c_X10_isNoRank hn hn40 hg hk hk5 (fun zt3 => ?_) (fun zt3 => ?_)
  · skip
    refine ck_r ?_
    refine a_if_eq (tgt := 14) q180_6 (by decide) (fun zc6 => absurd zc6 (by decide)) (fun zc6 => ?_)
    refine a_bipush (v := 45) q180_9 (by decide) ?_
    refine a_goto (tgt := 26) q180_11 (by decide) ?_
    refine a_ireturn q180_26 (nr_char rfl (by first | rfl | exact nc_named _)) ?_
    exact h1 zt3
  · skip
    refine ck_r ?_
    refine a_if_eq (tgt := 14) q180_6 (by decide) (fun zc6 => ?_) (fun zc6 => absurd (by decide) zc6)
    obtain ⟨j, hj, zr⟩ := inRow_of (show k ≤ 40 by omega) zt3
    subst zr
    refine a_aload_n (i := 0) q180_14 rfl rfl ?_
    refine a_getfield q180_15 rfl rfl ?_
    refine a_bipush (v := 6) q180_18 (by decide) ?_
    refine a_iload_n (i := 1) q180_20 rfl rfl ?_
    refine a_imul q180_21 ?_
    refine a_iald' (j := 6 * j) q180_22 rfl (nI_6 j) (by omega) (by decide) ?_
    refine a_cs1 q180_23 rfl ⟨rfl, rfl⟩ rfl ?_
    refine c_X10_named ?_
    refine ck_r ?_
    refine a_ireturn q180_26 (nr_char rfl (by first | rfl | exact nc_named _)) ?_
    exact h0 j hj rfl

theorem c_X10_aggregate {X : XS} {I : Nat → Int32} {A : Nat → Nat → Int32} {L : Nat → Nat → Int64} {O : Nat → UInt64} {Q : AO → AH → Prop} {r : Int32} {n : Nat} (hn : I 20 = nI n) (hn40 : n ≤ 40) (hg : vch (A 30)) {k : Nat} (hk : mkI I n A 22 = nI k) (hk5 : k ≤ 5) (h1 : ¬ inRow k r → Q (.inl (some (.int 0))) (hp (va_up (mkI I n A) 26 1) (mkA I n A) L O)) (h0 : ∀ j, j < k → r = nI j → Q (.inl (some (.int ((mkA I n A) 32 (6 * j + 1))))) (hp (va_up (mkI I n A) 26 0) (mkA I n A) L O)) : Call X 181 [.ref 21, .int r] (hp I A L O) Q := by
  refine call_of (by decide) rfl rfl ?_
  refine a_aload_n (i := 0) q181_0 rfl rfl ?_
  refine a_iload_n (i := 1) q181_1 rfl rfl ?_
  refine a_iconst (v := 1) q181_2 (by decide) ?_
  refine a_cv2 q181_3 rfl rfl ⟨rfl, rfl⟩ rfl ?_
  refine c_X10_isNoRank hn hn40 hg hk hk5 (fun zt3 => ?_) (fun zt3 => ?_)
  · skip
    refine ck_r ?_
    refine a_if_eq (tgt := 13) q181_6 (by decide) (fun zc6 => absurd zc6 (by decide)) (fun zc6 => ?_)
    refine a_iconst (v := 0) q181_9 (by decide) ?_
    refine a_goto (tgt := 24) q181_10 (by decide) ?_
    refine a_ireturn q181_24 (nr_int rfl _) ?_
    exact h1 zt3
  · skip
    refine ck_r ?_
    refine a_if_eq (tgt := 13) q181_6 (by decide) (fun zc6 => ?_) (fun zc6 => absurd (by decide) zc6)
    obtain ⟨j, hj, zr⟩ := inRow_of (show k ≤ 40 by omega) zt3
    subst zr
    refine a_aload_n (i := 0) q181_13 rfl rfl ?_
    refine a_getfield q181_14 rfl rfl ?_
    refine a_bipush (v := 6) q181_17 (by decide) ?_
    refine a_iload_n (i := 1) q181_19 rfl rfl ?_
    refine a_imul q181_20 ?_
    refine a_iconst (v := 1) q181_21 (by decide) ?_
    refine a_iadd q181_22 ?_
    refine a_iald' (j := 6 * j + 1) q181_23 rfl (nI_ix6 j 1) (by omega) (by decide) ?_
    refine a_ireturn q181_24 (nr_int rfl _) ?_
    exact h0 j hj rfl

theorem c_X10_column {X : XS} {I : Nat → Int32} {A : Nat → Nat → Int32} {L : Nat → Nat → Int64} {O : Nat → UInt64} {Q : AO → AH → Prop} {r c : Int32} {n : Nat} (hn : I 20 = nI n) (hn40 : n ≤ 40) (hg : vch (A 30)) {k : Nat} (hk : mkI I n A 22 = nI k) (hk5 : k ≤ 5) (h1 : ¬ inRow k r → Q (.inl (some (.int 0))) (hp (va_up (mkI I n A) 26 1) (mkA I n A) L O)) (h2 : inRow k r → ¬ isChan c → Q (.inl (some (.int 0))) (hp (va_up (mkI I n A) 26 2) (mkA I n A) L O)) (h0 : ∀ j i, j < k → i < 4 → r = nI j → c = nI i → Q (.inl (some (.int ((mkA I n A) 32 (6 * j + 2 + i))))) (hp (va_up (mkI I n A) 26 0) (mkA I n A) L O)) : Call X 183 [.ref 21, .int r, .int c] (hp I A L O) Q := by
  refine call_of (by decide) rfl rfl ?_
  refine a_aload_n (i := 0) q183_0 rfl rfl ?_
  refine a_iload_n (i := 1) q183_1 rfl rfl ?_
  refine a_iconst (v := 1) q183_2 (by decide) ?_
  refine a_cv2 q183_3 rfl rfl ⟨rfl, rfl⟩ rfl ?_
  refine c_X10_isNoRank hn hn40 hg hk hk5 (fun zt3 => ?_) (fun zt3 => ?_)
  · skip
    refine ck_r ?_
    refine a_if_ne (tgt := 18) q183_6 (by decide) (fun zc6 => ?_) (fun zc6 => absurd zc6 (by decide))
    refine a_iconst (v := 0) q183_18 (by decide) ?_
    refine a_goto (tgt := 35) q183_19 (by decide) ?_
    refine a_ireturn q183_35 (nr_int rfl _) ?_
    exact h1 zt3
  · skip
    refine ck_r ?_
    refine a_if_ne (tgt := 18) q183_6 (by decide) (fun zc6 => absurd zc6 (by decide)) (fun zc6 => ?_)
    refine a_aload_n (i := 0) q183_9 rfl rfl ?_
    refine a_iload_n (i := 2) q183_10 rfl rfl ?_
    refine a_iconst (v := 2) q183_11 (by decide) ?_
    refine a_cv2 q183_12 rfl rfl ⟨rfl, rfl⟩ rfl ?_
    refine c_X10_isNoChannel (fun zt12 => ?_) (fun zt12 => ?_)
    · skip
      refine ck_r ?_
      refine a_if_eq (tgt := 22) q183_15 (by decide) (fun zc15 => absurd zc15 (by decide)) (fun zc15 => ?_)
      refine a_iconst (v := 0) q183_18 (by decide) ?_
      refine a_goto (tgt := 35) q183_19 (by decide) ?_
      refine a_ireturn q183_35 (nr_int rfl _) ?_
      exact lfh (h2 zt3 zt12) rfl
    · skip
      refine ck_r ?_
      refine a_if_eq (tgt := 22) q183_15 (by decide) (fun zc15 => ?_) (fun zc15 => absurd (by decide) zc15)
      obtain ⟨j, hj, zr⟩ := inRow_of (show k ≤ 40 by omega) zt3
      obtain ⟨i, hi, zri⟩ := isChan_of zt12
      subst zr
      subst zri
      refine a_aload_n (i := 0) q183_22 rfl rfl ?_
      refine a_getfield q183_23 rfl rfl ?_
      refine a_bipush (v := 6) q183_26 (by decide) ?_
      refine a_iload_n (i := 1) q183_28 rfl rfl ?_
      refine a_imul q183_29 ?_
      refine a_iconst (v := 2) q183_30 (by decide) ?_
      refine a_iadd q183_31 ?_
      refine a_iload_n (i := 2) q183_32 rfl rfl ?_
      refine a_iadd q183_33 ?_
      refine a_iald' (j := 6 * j + 2 + i) q183_34 rfl (nI_ixc j i) (by omega) (by decide) ?_
      refine a_ireturn q183_35 (nr_int rfl _) ?_
      exact lfh (h0 j i hj hi rfl rfl) rfl

theorem c_X10_allowed {X : XS} {I : Nat → Int32} {A : Nat → Nat → Int32} {L : Nat → Nat → Int64} {O : Nat → UInt64} {Q : AO → AH → Prop} {n : Nat} (hn : I 20 = nI n) (hn40 : n ≤ 40) (hg : vch (A 30)) (hq : Q (.inl (some (.int ((mkI (va_up I 26 0) n A) 24)))) (hpK (va_up I 26 0) A L O n)) : Call X 175 [.ref 21] (hp I A L O) Q := by
  refine call_of (by decide) rfl rfl ?_
  refine a_aload_n (i := 0) q175_0 rfl rfl ?_
  refine a_iconst (v := 0) q175_1 (by decide) ?_
  refine a_putfield q175_2 rfl rfl rfl rfl ?_
  refine AW.hp (h' := hp (va_up I 26 0) A L O) rfl ?_
  refine a_aload_n (i := 0) q175_5 rfl rfl ?_
  refine a_cv0 q175_6 rfl rfl ⟨rfl, rfl⟩ rfl ?_
  refine c_X10_makes hn hn40 hg ?_
  refine ck_v ?_
  refine a_aload_n (i := 0) q175_9 rfl rfl ?_
  refine a_getfield q175_10 rfl rfl ?_
  refine a_ireturn q175_13 (nr_int rfl _) ?_
  exact hq

def usM (A : Nat → Nat → Int32) (n : Nat) : Nat → Int32
  | 0 => 0
  | c + 1 => usM A n c + b2i (1 < mkd A n c)
theorem l_musM (m : Nat) : ∀ {X : XS} {I : Nat → Int32} {A : Nat → Nat → Int32} {L : Nat → Nat → Int64} {O : Nat → UInt64} {Q : AO → AH → Prop} {c n : Nat} {r : Int32} (hn : I 20 = nI n) (hn40 : n ≤ 40) (hm : c + m = 6) (hk : AW X 178 33 [(0, .ref 21), (1, .int r), (2, .int (usM A n 6))] [] (hp I A L O) 0 0 Q), AW X 178 4 [(0, .ref 21), (1, .int r), (2, .int (usM A n c)), (3, .int (nI c))] [] (hp I A L O) 0 0 Q := by
  induction m with
  | zero =>
    intro X I A L O Q c n r hn hn40 hm hk
    refine a_iload_n (i := 3) q178_4 rfl rfl ?_
    refine a_bipush (v := 6) q178_5 (by decide) ?_
    refine a_icmp_ge (tgt := 33) q178_7 (by decide) (fun zc7 => ?_) (fun zc7 => absurd (nI_le (show 6 ≤ c by omega) (by omega)) zc7)
    have zr : c = 6 := by omega
    subst zr
    refine AW.pop_less (x := (3, _)) (lv' := [(0, _), (1, _), (2, _)]) ?_
    exact hk
  | succ m ih =>
    intro X I A L O Q c n r hn hn40 hm hk
    refine a_iload_n (i := 3) q178_4 rfl rfl ?_
    refine a_bipush (v := 6) q178_5 (by decide) ?_
    refine a_icmp_ge (tgt := 33) q178_7 (by decide) (fun zc7 => absurd zc7 (nI_ge (show c < 6 by omega) (by decide))) (fun zc7 => ?_)
    refine a_iload_n (i := 2) q178_10 rfl rfl ?_
    refine AW.cut 25 (b2i (1 < mkd A n c)) (fun zk25 => ?_) ?_
    · skip
      refine a_aload_n (i := 0) q178_11 rfl rfl ?_
      refine a_iload_n (i := 3) q178_12 rfl rfl ?_
      refine a_cv1 q178_13 rfl rfl ⟨rfl, rfl⟩ rfl ?_
      refine c_X10_kindBy hn hn40 (by omega) ?_
      refine ck_r ?_
      refine a_iconst (v := 1) q178_16 (by decide) ?_
      refine a_icmp_le (tgt := 24) q178_17 (by decide) (fun zc17 => ?_) (fun zc17 => ?_)
      · skip
        refine a_iconst (v := 0) q178_24 (by decide) ?_
        exact cutv zk25 (b2i_f (i_nlt.mpr zc17))
      · skip
        refine a_iconst (v := 1) q178_20 (by decide) ?_
        refine a_goto (tgt := 25) q178_21 (by decide) ?_
        exact cutv zk25 (b2i_t (i_nle.mp zc17))
    refine a_iadd q178_25 ?_
    refine a_istore_n (i := 2) (lv' := [(0, _), (1, _), (2, _), (3, _)]) q178_26 rfl rfl rfl ?_
    refine a_iinc (v := nI (c + 1)) (lv' := [(0, _), (1, _), (2, _), (3, _)]) q178_27 rfl rfl (nI_1 (c)) rfl ?_
    refine a_goto (tgt := 4) q178_30 (by decide) ?_
    exact ih hn hn40 (show c + 1 + m = 6 by omega) hk

theorem c_X10_costByTrying {X : XS} {I : Nat → Int32} {A : Nat → Nat → Int32} {L : Nat → Nat → Int64} {O : Nat → UInt64} {Q : AO → AH → Prop} {r : Int32} {n : Nat} (hn : I 20 = nI n) (hn40 : n ≤ 40) (hg : vch (A 30)) {k : Nat} (hk : mkI (va_up I 26 0) n A 22 = nI k) (hk5 : k ≤ 5) (h1 : 3 < usM A n 6 → Q (.inl (some (.int 0))) (hp (va_up I 26 1) A L O)) (h2 : ¬ 3 < usM A n 6 → ¬ inRow k r → Q (.inl (some (.int 0))) (hp (va_up (mkI (va_up I 26 0) n A) 26 2) (mkA (va_up I 26 0) n A) L O)) (h0 : ¬ 3 < usM A n 6 → ∀ j, j < k → r = nI j → Q (.inl (some (.int ((mkA (va_up I 26 0) n A) 33 j)))) (hp (va_up (mkI (va_up I 26 0) n A) 26 0) (mkA (va_up I 26 0) n A) L O)) : Call X 178 [.ref 21, .int r] (hp I A L O) Q := by
  refine call_of (by decide) rfl rfl ?_
  refine a_iconst (v := 0) q178_0 (by decide) ?_
  refine a_istore_n (i := 2) (lv' := [(0, _), (1, _), (2, _)]) q178_1 rfl rfl rfl ?_
  refine a_iconst (v := 0) q178_2 (by decide) ?_
  refine a_istore_n (i := 3) (lv' := [(0, _), (1, _), (2, _), (3, _)]) q178_3 rfl rfl rfl ?_
  refine l_musM 6 (c := 0) hn hn40 rfl ?_
  refine a_aload_n (i := 0) q178_33 rfl rfl ?_
  refine AW.cut 44 (b2i (3 < usM A n 6)) (fun zk44 => ?_) ?_
  · skip
    refine a_iload_n (i := 2) q178_34 rfl rfl ?_
    refine a_iconst (v := 3) q178_35 (by decide) ?_
    refine a_icmp_le (tgt := 43) q178_36 (by decide) (fun zc36 => ?_) (fun zc36 => ?_)
    · skip
      refine a_iconst (v := 0) q178_43 (by decide) ?_
      exact cutv zk44 (b2i_f (i_nlt.mpr zc36))
    · skip
      refine a_iconst (v := 1) q178_39 (by decide) ?_
      refine a_goto (tgt := 44) q178_40 (by decide) ?_
      exact cutv zk44 (b2i_t (i_nle.mp zc36))
  refine a_iconst (v := 1) q178_44 (by decide) ?_
  refine a_cv2 q178_45 rfl rfl ⟨rfl, rfl⟩ rfl ?_
  refine c_X10_isThrown (fun zt45 => ?_) (fun zt45 => ?_)
  · skip
    refine ck_r ?_
    refine a_if_ne (tgt := 60) q178_48 (by decide) (fun zc48 => ?_) (fun zc48 => absurd zc48 (by decide))
    refine a_iconst (v := 0) q178_60 (by decide) ?_
    refine a_goto (tgt := 70) q178_61 (by decide) ?_
    refine a_ireturn q178_70 (nr_int rfl _) ?_
    exact h1 zt45
  · skip
    refine ck_r ?_
    refine a_if_ne (tgt := 60) q178_48 (by decide) (fun zc48 => absurd zc48 (by decide)) (fun zc48 => ?_)
    refine a_aload_n (i := 0) q178_51 rfl rfl ?_
    refine a_iload_n (i := 1) q178_52 rfl rfl ?_
    refine a_iconst (v := 2) q178_53 (by decide) ?_
    refine a_cv2 q178_54 rfl rfl ⟨rfl, rfl⟩ rfl ?_
    refine c_X10_isNoRank (I := (va_up I 26 0)) hn hn40 hg hk hk5 (fun zt54 => ?_) (fun zt54 => ?_)
    · skip
      refine ck_r ?_
      refine a_if_eq (tgt := 64) q178_57 (by decide) (fun zc57 => absurd zc57 (by decide)) (fun zc57 => ?_)
      refine a_iconst (v := 0) q178_60 (by decide) ?_
      refine a_goto (tgt := 70) q178_61 (by decide) ?_
      refine a_ireturn q178_70 (nr_int rfl _) ?_
      exact h2 zt45 zt54
    · skip
      refine ck_r ?_
      refine a_if_eq (tgt := 64) q178_57 (by decide) (fun zc57 => ?_) (fun zc57 => absurd (by decide) zc57)
      obtain ⟨j, hj, zr⟩ := inRow_of (show k ≤ 40 by omega) zt54
      subst zr
      refine a_aload_n (i := 0) q178_64 rfl rfl ?_
      refine a_getfield q178_65 rfl rfl ?_
      refine a_iload_n (i := 1) q178_68 rfl rfl ?_
      refine a_iald' (j := j) q178_69 rfl rfl (by omega) (by decide) ?_
      refine a_ireturn q178_70 (nr_int rfl _) ?_
      exact h0 zt45 j hj rfl

def shF (f : Nat → Int32) : Nat → Nat → Int32
  | 0 => f
  | d + 1 => shF (upd f (d + 6) (f d)) d
theorem l_mshF (m : Nat) : ∀ {X : XS} {I : Nat → Int32} {A : Nat → Nat → Int32} {L : Nat → Nat → Int64} {O : Nat → UInt64} {Q : AO → AH → Prop}  (hm : m ≤ 18) (hk : AW X 185 103 [(0, .ref 21)] [] (hp I (va_up A 34 (shF (A 34) m)) L O) 0 0 Q), AW X 185 76 [(0, .ref 21), (1, .int (nI (m + 5)))] [] (hp I A L O) 0 0 Q := by
  induction m with
  | zero =>
    intro X I A L O Q  hm hk
    refine a_iload_n (i := 1) q185_76 rfl rfl ?_
    refine a_bipush (v := 6) q185_77 (by decide) ?_
    refine a_icmp_lt (tgt := 103) q185_79 (by decide) (fun zc79 => ?_) (fun zc79 => absurd (by decide) zc79)
    refine AW.pop_less (x := (1, _)) (lv' := [(0, _)]) ?_
    exact AW.hp rfl hk
  | succ m ih =>
    intro X I A L O Q  hm hk
    refine a_iload_n (i := 1) q185_76 rfl rfl ?_
    refine a_bipush (v := 6) q185_77 (by decide) ?_
    refine a_icmp_lt (tgt := 103) q185_79 (by decide) (fun zc79 => absurd zc79 (nI_nlt (b := 6) (show 6 ≤ m + 1 + 5 by omega) (by omega))) (fun zc79 => ?_)
    refine a_aload_n (i := 0) q185_82 rfl rfl ?_
    refine a_getfield q185_83 rfl rfl ?_
    refine a_iload_n (i := 1) q185_86 rfl rfl ?_
    refine a_aload_n (i := 0) q185_87 rfl rfl ?_
    refine a_getfield q185_88 rfl rfl ?_
    refine a_iload_n (i := 1) q185_91 rfl rfl ?_
    refine a_bipush (v := 6) q185_92 (by decide) ?_
    refine a_isub q185_94 ?_
    refine AW.ti (show nI (m + 1 + 5) - nI 6 = nI m from (pk_sub (by omega)).trans (by rw [show m + 1 + 5 - 6 = m by omega])) ?_
    refine a_iald' (j := m) q185_95 rfl rfl (by omega) (by decide) ?_
    refine a_iast' (j := m + 6) q185_96 rfl rfl (by omega) (by decide) (h' := hp I (va_up A 34 (upd (A 34) (m + 6) (A 34 m))) L O) rfl ?_
    refine a_iinc (v := nI (m + 5)) (lv' := [(0, _), (1, _)]) q185_97 rfl rfl (pk_m1 (m + 5)) rfl ?_
    refine a_goto (tgt := 76) q185_100 (by decide) ?_
    exact ih (by omega) (AW.hp rfl hk)

theorem kp_next {k : Nat} (h : k ≤ 4) : nI k + b2i (nI k < 4) = nI (kpN k) := by
  by_cases zk : k < 4
  · rw [b2i_t (p := nI k < 4) (nI_lt (b := 4) zk (by decide)), show kpN k = k + 1 from if_pos zk]; exact nI_1 k
  · rw [b2i_f (p := nI k < 4) (fun zz => zk ((nI_ltI (b := 4) (by omega) (by decide)).mp zz)), show kpN k = k from if_neg zk]; exact Int32.add_zero _
theorem c_X10_pick {X : XS} {I : Nat → Int32} {A : Nat → Nat → Int32} {L : Nat → Nat → Int64} {O : Nat → UInt64} {Q : AO → AH → Prop} {n : Nat} (hn : I 20 = nI n) (hn40 : n ≤ 40) (hg : vch (A 30)) (hv : vch (A 31)) {q : Nat} (hf : I 21 = nI q) (hq4 : q ≤ 4) (h1 : (mkI I n A) 22 = 0 → Q (.inl (some (.int 0))) (hp (va_up (mkI I n A) 26 1) (mkA I n A) L O)) (h2 : ¬ (mkI I n A) 22 = 0 → (¬ (mkI I n A) 28 = 0 ∧ m_fb ((mkI I n A) 27) (mkA I n A) ((mkA I n A) 31) = 0 ∧ m_cost n (mkA I n A) ((mkA I n A) 31) ≤ (mkA I n A) 33 0 + (mkI I n A) 23) → Q (.inl (some (.int 0))) (hp (va_up (mkI I n A) 26 0) (mkA I n A) L O)) (h3 : ¬ (mkI I n A) 22 = 0 → ¬ (¬ (mkI I n A) 28 = 0 ∧ m_fb ((mkI I n A) 27) (mkA I n A) ((mkA I n A) 31) = 0 ∧ m_cost n (mkA I n A) ((mkA I n A) 31) ≤ (mkA I n A) 33 0 + (mkI I n A) 23) → (mkI I n A) 28 = 0 → Q (.inl (some (.int 1))) (hp (va_up (va_up (mkI I n A) 26 0) 28 1) (va_up (mkA I n A) 31 (stc ((mkA I n A) 31) 0 ((mkA I n A) 32) 6)) L O)) (h4 : ¬ (mkI I n A) 22 = 0 → ¬ (¬ (mkI I n A) 28 = 0 ∧ m_fb ((mkI I n A) 27) (mkA I n A) ((mkA I n A) 31) = 0 ∧ m_cost n (mkA I n A) ((mkA I n A) 31) ≤ (mkA I n A) 33 0 + (mkI I n A) 23) → ¬ (mkI I n A) 28 = 0 → Q (.inl (some (.int 1))) (hp (va_up (va_up (va_up (mkI I n A) 26 0) 21 (nI (kpN q))) 28 1) (va_up (va_up (mkA I n A) 34 (stc (shF ((mkA I n A) 34) 18) 0 ((mkA I n A) 31) 6)) 31 (stc ((mkA I n A) 31) 0 ((mkA I n A) 32) 6)) L O)) : Call X 185 [.ref 21] (hp I A L O) Q := by
  refine call_of (by decide) rfl rfl ?_
  refine a_aload_n (i := 0) q185_0 rfl rfl ?_
  refine a_cv0 q185_1 rfl rfl ⟨rfl, rfl⟩ rfl ?_
  refine c_X10_makes hn hn40 hg ?_
  refine ck_v ?_
  refine a_aload_n (i := 0) q185_4 rfl rfl ?_
  refine AW.cut 17 (b2i ((mkI I n A) 22 = 0)) (fun zk17 => ?_) ?_
  · skip
    refine a_aload_n (i := 0) q185_5 rfl rfl ?_
    refine a_getfield q185_6 rfl rfl ?_
    refine a_if_ne (tgt := 16) q185_9 (by decide) (fun zc9 => ?_) (fun zc9 => ?_)
    · skip
      refine a_iconst (v := 0) q185_16 (by decide) ?_
      exact cutv zk17 (b2i_f zc9)
    · skip
      refine a_iconst (v := 1) q185_12 (by decide) ?_
      refine a_goto (tgt := 17) q185_13 (by decide) ?_
      exact cutv zk17 (b2i_t zc9)
  refine a_iconst (v := 1) q185_17 (by decide) ?_
  refine a_cv2 q185_18 rfl rfl ⟨rfl, rfl⟩ rfl ?_
  refine c_X10_isThrown (fun zt18 => ?_) (fun zt18 => ?_)
  · skip
    refine ck_r ?_
    refine a_if_ne (tgt := 64) q185_21 (by decide) (fun zc21 => ?_) (fun zc21 => absurd zc21 (by decide))
    refine a_iconst (v := 0) q185_64 (by decide) ?_
    refine a_ireturn q185_65 (nr_bool rfl (by decide)) ?_
    exact lfh (h1 zt18) rfl
  · skip
    refine ck_r ?_
    refine a_if_ne (tgt := 64) q185_21 (by decide) (fun zc21 => absurd zc21 (by decide)) (fun zc21 => ?_)
    refine AW.cutP 66 (¬ (¬ (mkI I n A) 28 = 0 ∧ m_fb ((mkI I n A) 27) (mkA I n A) ((mkA I n A) 31) = 0 ∧ m_cost n (mkA I n A) ((mkA I n A) 31) ≤ (mkA I n A) 33 0 + (mkI I n A) 23)) (fun zk66 => ?_) (fun zf66 => ?_)
    · skip
      refine a_aload_n (i := 0) q185_24 rfl rfl ?_
      refine a_getfield q185_25 rfl rfl ?_
      refine a_if_eq (tgt := 66) q185_28 (by decide) (fun zc28 => ?_) (fun zc28 => ?_)
      · skip
        exact zk66 (fun zz => zz.1 zc28)
      · skip
        refine a_aload_n (i := 0) q185_31 rfl rfl ?_
        refine a_aload_n (i := 0) q185_32 rfl rfl ?_
        refine a_getfield q185_33 rfl rfl ?_
        refine a_cv1 q185_36 rfl rfl ⟨rfl, rfl⟩ rfl ?_
        refine c_X10_broken (I := (va_up (mkI I n A) 26 0)) (o := 31) (Or.inr (Or.inr rfl)) (by rw [mkA_31]; exact hv) ?_
        refine ck_r ?_
        refine a_if_ne (tgt := 66) q185_39 (by decide) (fun zc39 => ?_) (fun zc39 => ?_)
        · skip
          exact zk66 (fun zz => zc39 zz.2.1)
        · skip
          refine a_aload_n (i := 0) q185_42 rfl rfl ?_
          refine a_aload_n (i := 0) q185_43 rfl rfl ?_
          refine a_getfield q185_44 rfl rfl ?_
          refine a_cv1 q185_47 rfl rfl ⟨rfl, rfl⟩ rfl ?_
          refine c_X10_costOf (I := (va_up (mkI I n A) 26 0)) (o := 31) (n := n) (Or.inr (Or.inr rfl)) (by rw [mkA_31]; exact hv) ((mkI_o I n A 20 (by decide)).trans hn) hn40 ?_
          refine ck_r ?_
          refine a_aload_n (i := 0) q185_50 rfl rfl ?_
          refine a_getfield q185_51 rfl rfl ?_
          refine a_iconst (v := 0) q185_54 (by decide) ?_
          refine a_iald' (j := 0) q185_55 rfl rfl (by decide) (by decide) ?_
          refine a_aload_n (i := 0) q185_56 rfl rfl ?_
          refine a_getfield q185_57 rfl rfl ?_
          refine a_iadd q185_60 ?_
          refine a_icmp_gt (tgt := 66) q185_61 (by decide) (fun zc61 => ?_) (fun zc61 => ?_)
          · skip
            exact zk66 (fun zz => absurd zz.2.2 (i_nle.mpr zc61))
          · skip
            refine a_iconst (v := 0) q185_64 (by decide) ?_
            refine a_ireturn q185_65 (nr_bool rfl (by decide)) ?_
            exact lfh (h2 zt18 ⟨zc28, zc39, i_nlt.mp zc61⟩) rfl
    · skip
      refine a_aload_n (i := 0) q185_66 rfl rfl ?_
      refine a_getfield q185_67 rfl rfl ?_
      refine a_if_eq (tgt := 151) q185_70 (by decide) (fun zc70 => ?_) (fun zc70 => ?_)
      · skip
        refine a_iconst (v := 0) q185_151 (by decide) ?_
        refine a_istore_n (i := 1) (lv' := [(0, _), (1, _)]) q185_152 rfl rfl rfl ?_
        refine a_iload_n (i := 1) q185_153 rfl rfl ?_
        refine a_bipush (v := 6) q185_154 (by decide) ?_
        refine a_icmp_ge (tgt := 177) q185_156 (by decide) (fun zc156 => absurd zc156 (by decide)) (fun zc156 => ?_)
        refine a_aload_n (i := 0) q185_159 rfl rfl ?_
        refine a_getfield q185_160 rfl rfl ?_
        refine a_iload_n (i := 1) q185_163 rfl rfl ?_
        refine a_aload_n (i := 0) q185_164 rfl rfl ?_
        refine a_getfield q185_165 rfl rfl ?_
        refine a_iload_n (i := 1) q185_168 rfl rfl ?_
        refine a_iald' (j := 0) q185_169 rfl rfl (by decide) (by decide) ?_
        refine a_iast' (j := 6 * 0 + 0) q185_170 rfl rfl (by decide) (by decide) (h' := hp (va_up (mkI I n A) 26 0) (va_up (mkA I n A) 31 (stc ((mkA I n A) 31) 0 ((mkA I n A) 32) 1)) L O) rfl ?_
        refine a_iinc (v := nI (0 + 1)) (lv' := [(0, _), (1, _)]) q185_171 rfl rfl (nI_1 (0)) rfl ?_
        refine a_goto (tgt := 153) q185_174 (by decide) ?_
        refine a_iload_n (i := 1) q185_153 rfl rfl ?_
        refine a_bipush (v := 6) q185_154 (by decide) ?_
        refine a_icmp_ge (tgt := 177) q185_156 (by decide) (fun zc156_1 => absurd zc156_1 (by decide)) (fun zc156_1 => ?_)
        refine a_aload_n (i := 0) q185_159 rfl rfl ?_
        refine a_getfield q185_160 rfl rfl ?_
        refine a_iload_n (i := 1) q185_163 rfl rfl ?_
        refine a_aload_n (i := 0) q185_164 rfl rfl ?_
        refine a_getfield q185_165 rfl rfl ?_
        refine a_iload_n (i := 1) q185_168 rfl rfl ?_
        refine a_iald' (j := 1) q185_169 rfl rfl (by decide) (by decide) ?_
        refine a_iast' (j := 6 * 0 + 1) q185_170 rfl rfl (by decide) (by decide) (h' := hp (va_up (mkI I n A) 26 0) (va_up (mkA I n A) 31 (stc ((mkA I n A) 31) 0 ((mkA I n A) 32) 2)) L O) rfl ?_
        refine a_iinc (v := nI (1 + 1)) (lv' := [(0, _), (1, _)]) q185_171 rfl rfl (nI_1 (1)) rfl ?_
        refine a_goto (tgt := 153) q185_174 (by decide) ?_
        refine a_iload_n (i := 1) q185_153 rfl rfl ?_
        refine a_bipush (v := 6) q185_154 (by decide) ?_
        refine a_icmp_ge (tgt := 177) q185_156 (by decide) (fun zc156_2 => absurd zc156_2 (by decide)) (fun zc156_2 => ?_)
        refine a_aload_n (i := 0) q185_159 rfl rfl ?_
        refine a_getfield q185_160 rfl rfl ?_
        refine a_iload_n (i := 1) q185_163 rfl rfl ?_
        refine a_aload_n (i := 0) q185_164 rfl rfl ?_
        refine a_getfield q185_165 rfl rfl ?_
        refine a_iload_n (i := 1) q185_168 rfl rfl ?_
        refine a_iald' (j := 2) q185_169 rfl rfl (by decide) (by decide) ?_
        refine a_iast' (j := 6 * 0 + 2) q185_170 rfl rfl (by decide) (by decide) (h' := hp (va_up (mkI I n A) 26 0) (va_up (mkA I n A) 31 (stc ((mkA I n A) 31) 0 ((mkA I n A) 32) 3)) L O) rfl ?_
        refine a_iinc (v := nI (2 + 1)) (lv' := [(0, _), (1, _)]) q185_171 rfl rfl (nI_1 (2)) rfl ?_
        refine a_goto (tgt := 153) q185_174 (by decide) ?_
        refine a_iload_n (i := 1) q185_153 rfl rfl ?_
        refine a_bipush (v := 6) q185_154 (by decide) ?_
        refine a_icmp_ge (tgt := 177) q185_156 (by decide) (fun zc156_3 => absurd zc156_3 (by decide)) (fun zc156_3 => ?_)
        refine a_aload_n (i := 0) q185_159 rfl rfl ?_
        refine a_getfield q185_160 rfl rfl ?_
        refine a_iload_n (i := 1) q185_163 rfl rfl ?_
        refine a_aload_n (i := 0) q185_164 rfl rfl ?_
        refine a_getfield q185_165 rfl rfl ?_
        refine a_iload_n (i := 1) q185_168 rfl rfl ?_
        refine a_iald' (j := 3) q185_169 rfl rfl (by decide) (by decide) ?_
        refine a_iast' (j := 6 * 0 + 3) q185_170 rfl rfl (by decide) (by decide) (h' := hp (va_up (mkI I n A) 26 0) (va_up (mkA I n A) 31 (stc ((mkA I n A) 31) 0 ((mkA I n A) 32) 4)) L O) rfl ?_
        refine a_iinc (v := nI (3 + 1)) (lv' := [(0, _), (1, _)]) q185_171 rfl rfl (nI_1 (3)) rfl ?_
        refine a_goto (tgt := 153) q185_174 (by decide) ?_
        refine a_iload_n (i := 1) q185_153 rfl rfl ?_
        refine a_bipush (v := 6) q185_154 (by decide) ?_
        refine a_icmp_ge (tgt := 177) q185_156 (by decide) (fun zc156_4 => absurd zc156_4 (by decide)) (fun zc156_4 => ?_)
        refine a_aload_n (i := 0) q185_159 rfl rfl ?_
        refine a_getfield q185_160 rfl rfl ?_
        refine a_iload_n (i := 1) q185_163 rfl rfl ?_
        refine a_aload_n (i := 0) q185_164 rfl rfl ?_
        refine a_getfield q185_165 rfl rfl ?_
        refine a_iload_n (i := 1) q185_168 rfl rfl ?_
        refine a_iald' (j := 4) q185_169 rfl rfl (by decide) (by decide) ?_
        refine a_iast' (j := 6 * 0 + 4) q185_170 rfl rfl (by decide) (by decide) (h' := hp (va_up (mkI I n A) 26 0) (va_up (mkA I n A) 31 (stc ((mkA I n A) 31) 0 ((mkA I n A) 32) 5)) L O) rfl ?_
        refine a_iinc (v := nI (4 + 1)) (lv' := [(0, _), (1, _)]) q185_171 rfl rfl (nI_1 (4)) rfl ?_
        refine a_goto (tgt := 153) q185_174 (by decide) ?_
        refine a_iload_n (i := 1) q185_153 rfl rfl ?_
        refine a_bipush (v := 6) q185_154 (by decide) ?_
        refine a_icmp_ge (tgt := 177) q185_156 (by decide) (fun zc156_5 => absurd zc156_5 (by decide)) (fun zc156_5 => ?_)
        refine a_aload_n (i := 0) q185_159 rfl rfl ?_
        refine a_getfield q185_160 rfl rfl ?_
        refine a_iload_n (i := 1) q185_163 rfl rfl ?_
        refine a_aload_n (i := 0) q185_164 rfl rfl ?_
        refine a_getfield q185_165 rfl rfl ?_
        refine a_iload_n (i := 1) q185_168 rfl rfl ?_
        refine a_iald' (j := 5) q185_169 rfl rfl (by decide) (by decide) ?_
        refine a_iast' (j := 6 * 0 + 5) q185_170 rfl rfl (by decide) (by decide) (h' := hp (va_up (mkI I n A) 26 0) (va_up (mkA I n A) 31 (stc ((mkA I n A) 31) 0 ((mkA I n A) 32) 6)) L O) rfl ?_
        refine a_iinc (v := nI (5 + 1)) (lv' := [(0, _), (1, _)]) q185_171 rfl rfl (nI_1 (5)) rfl ?_
        refine a_goto (tgt := 153) q185_174 (by decide) ?_
        refine a_iload_n (i := 1) q185_153 rfl rfl ?_
        refine a_bipush (v := 6) q185_154 (by decide) ?_
        refine a_icmp_ge (tgt := 177) q185_156 (by decide) (fun zc156_6 => ?_) (fun zc156_6 => absurd (by decide) zc156_6)
        refine a_aload_n (i := 0) q185_177 rfl rfl ?_
        refine a_iconst (v := 1) q185_178 (by decide) ?_
        refine a_putfield q185_179 rfl rfl rfl rfl ?_
        refine a_iconst (v := 1) q185_182 (by decide) ?_
        refine a_ireturn q185_183 (nr_bool rfl (by decide)) ?_
        exact lfh (h3 zt18 zf66 zc70) rfl
      · skip
        refine a_bipush (v := 23) q185_73 (by decide) ?_
        refine a_istore_n (i := 1) (lv' := [(0, _), (1, _)]) q185_75 rfl rfl rfl ?_
        refine l_mshF 18 (Nat.le_refl _) ?_
        refine AW.hp (h' := hp (va_up (mkI I n A) 26 0) (va_up (mkA I n A) 34 (stc (shF ((mkA I n A) 34) 18) 0 ((mkA I n A) 31) 0)) L O) rfl ?_
        refine a_iconst (v := 0) q185_103 (by decide) ?_
        refine a_istore_n (i := 1) (lv' := [(0, _), (1, _)]) q185_104 rfl rfl rfl ?_
        refine a_iload_n (i := 1) q185_105 rfl rfl ?_
        refine a_bipush (v := 6) q185_106 (by decide) ?_
        refine a_icmp_ge (tgt := 129) q185_108 (by decide) (fun zc108 => absurd zc108 (by decide)) (fun zc108 => ?_)
        refine a_aload_n (i := 0) q185_111 rfl rfl ?_
        refine a_getfield q185_112 rfl rfl ?_
        refine a_iload_n (i := 1) q185_115 rfl rfl ?_
        refine a_aload_n (i := 0) q185_116 rfl rfl ?_
        refine a_getfield q185_117 rfl rfl ?_
        refine a_iload_n (i := 1) q185_120 rfl rfl ?_
        refine a_iald' (j := 0) q185_121 rfl rfl (by decide) (by decide) ?_
        refine a_iast' (j := 6 * 0 + 0) q185_122 rfl rfl (by decide) (by decide) (h' := hp (va_up (mkI I n A) 26 0) (va_up (mkA I n A) 34 (stc (shF ((mkA I n A) 34) 18) 0 ((mkA I n A) 31) 1)) L O) rfl ?_
        refine a_iinc (v := nI (0 + 1)) (lv' := [(0, _), (1, _)]) q185_123 rfl rfl (nI_1 (0)) rfl ?_
        refine a_goto (tgt := 105) q185_126 (by decide) ?_
        refine a_iload_n (i := 1) q185_105 rfl rfl ?_
        refine a_bipush (v := 6) q185_106 (by decide) ?_
        refine a_icmp_ge (tgt := 129) q185_108 (by decide) (fun zc108_1 => absurd zc108_1 (by decide)) (fun zc108_1 => ?_)
        refine a_aload_n (i := 0) q185_111 rfl rfl ?_
        refine a_getfield q185_112 rfl rfl ?_
        refine a_iload_n (i := 1) q185_115 rfl rfl ?_
        refine a_aload_n (i := 0) q185_116 rfl rfl ?_
        refine a_getfield q185_117 rfl rfl ?_
        refine a_iload_n (i := 1) q185_120 rfl rfl ?_
        refine a_iald' (j := 1) q185_121 rfl rfl (by decide) (by decide) ?_
        refine a_iast' (j := 6 * 0 + 1) q185_122 rfl rfl (by decide) (by decide) (h' := hp (va_up (mkI I n A) 26 0) (va_up (mkA I n A) 34 (stc (shF ((mkA I n A) 34) 18) 0 ((mkA I n A) 31) 2)) L O) rfl ?_
        refine a_iinc (v := nI (1 + 1)) (lv' := [(0, _), (1, _)]) q185_123 rfl rfl (nI_1 (1)) rfl ?_
        refine a_goto (tgt := 105) q185_126 (by decide) ?_
        refine a_iload_n (i := 1) q185_105 rfl rfl ?_
        refine a_bipush (v := 6) q185_106 (by decide) ?_
        refine a_icmp_ge (tgt := 129) q185_108 (by decide) (fun zc108_2 => absurd zc108_2 (by decide)) (fun zc108_2 => ?_)
        refine a_aload_n (i := 0) q185_111 rfl rfl ?_
        refine a_getfield q185_112 rfl rfl ?_
        refine a_iload_n (i := 1) q185_115 rfl rfl ?_
        refine a_aload_n (i := 0) q185_116 rfl rfl ?_
        refine a_getfield q185_117 rfl rfl ?_
        refine a_iload_n (i := 1) q185_120 rfl rfl ?_
        refine a_iald' (j := 2) q185_121 rfl rfl (by decide) (by decide) ?_
        refine a_iast' (j := 6 * 0 + 2) q185_122 rfl rfl (by decide) (by decide) (h' := hp (va_up (mkI I n A) 26 0) (va_up (mkA I n A) 34 (stc (shF ((mkA I n A) 34) 18) 0 ((mkA I n A) 31) 3)) L O) rfl ?_
        refine a_iinc (v := nI (2 + 1)) (lv' := [(0, _), (1, _)]) q185_123 rfl rfl (nI_1 (2)) rfl ?_
        refine a_goto (tgt := 105) q185_126 (by decide) ?_
        refine a_iload_n (i := 1) q185_105 rfl rfl ?_
        refine a_bipush (v := 6) q185_106 (by decide) ?_
        refine a_icmp_ge (tgt := 129) q185_108 (by decide) (fun zc108_3 => absurd zc108_3 (by decide)) (fun zc108_3 => ?_)
        refine a_aload_n (i := 0) q185_111 rfl rfl ?_
        refine a_getfield q185_112 rfl rfl ?_
        refine a_iload_n (i := 1) q185_115 rfl rfl ?_
        refine a_aload_n (i := 0) q185_116 rfl rfl ?_
        refine a_getfield q185_117 rfl rfl ?_
        refine a_iload_n (i := 1) q185_120 rfl rfl ?_
        refine a_iald' (j := 3) q185_121 rfl rfl (by decide) (by decide) ?_
        refine a_iast' (j := 6 * 0 + 3) q185_122 rfl rfl (by decide) (by decide) (h' := hp (va_up (mkI I n A) 26 0) (va_up (mkA I n A) 34 (stc (shF ((mkA I n A) 34) 18) 0 ((mkA I n A) 31) 4)) L O) rfl ?_
        refine a_iinc (v := nI (3 + 1)) (lv' := [(0, _), (1, _)]) q185_123 rfl rfl (nI_1 (3)) rfl ?_
        refine a_goto (tgt := 105) q185_126 (by decide) ?_
        refine a_iload_n (i := 1) q185_105 rfl rfl ?_
        refine a_bipush (v := 6) q185_106 (by decide) ?_
        refine a_icmp_ge (tgt := 129) q185_108 (by decide) (fun zc108_4 => absurd zc108_4 (by decide)) (fun zc108_4 => ?_)
        refine a_aload_n (i := 0) q185_111 rfl rfl ?_
        refine a_getfield q185_112 rfl rfl ?_
        refine a_iload_n (i := 1) q185_115 rfl rfl ?_
        refine a_aload_n (i := 0) q185_116 rfl rfl ?_
        refine a_getfield q185_117 rfl rfl ?_
        refine a_iload_n (i := 1) q185_120 rfl rfl ?_
        refine a_iald' (j := 4) q185_121 rfl rfl (by decide) (by decide) ?_
        refine a_iast' (j := 6 * 0 + 4) q185_122 rfl rfl (by decide) (by decide) (h' := hp (va_up (mkI I n A) 26 0) (va_up (mkA I n A) 34 (stc (shF ((mkA I n A) 34) 18) 0 ((mkA I n A) 31) 5)) L O) rfl ?_
        refine a_iinc (v := nI (4 + 1)) (lv' := [(0, _), (1, _)]) q185_123 rfl rfl (nI_1 (4)) rfl ?_
        refine a_goto (tgt := 105) q185_126 (by decide) ?_
        refine a_iload_n (i := 1) q185_105 rfl rfl ?_
        refine a_bipush (v := 6) q185_106 (by decide) ?_
        refine a_icmp_ge (tgt := 129) q185_108 (by decide) (fun zc108_5 => absurd zc108_5 (by decide)) (fun zc108_5 => ?_)
        refine a_aload_n (i := 0) q185_111 rfl rfl ?_
        refine a_getfield q185_112 rfl rfl ?_
        refine a_iload_n (i := 1) q185_115 rfl rfl ?_
        refine a_aload_n (i := 0) q185_116 rfl rfl ?_
        refine a_getfield q185_117 rfl rfl ?_
        refine a_iload_n (i := 1) q185_120 rfl rfl ?_
        refine a_iald' (j := 5) q185_121 rfl rfl (by decide) (by decide) ?_
        refine a_iast' (j := 6 * 0 + 5) q185_122 rfl rfl (by decide) (by decide) (h' := hp (va_up (mkI I n A) 26 0) (va_up (mkA I n A) 34 (stc (shF ((mkA I n A) 34) 18) 0 ((mkA I n A) 31) 6)) L O) rfl ?_
        refine a_iinc (v := nI (5 + 1)) (lv' := [(0, _), (1, _)]) q185_123 rfl rfl (nI_1 (5)) rfl ?_
        refine a_goto (tgt := 105) q185_126 (by decide) ?_
        refine a_iload_n (i := 1) q185_105 rfl rfl ?_
        refine a_bipush (v := 6) q185_106 (by decide) ?_
        refine a_icmp_ge (tgt := 129) q185_108 (by decide) (fun zc108_6 => ?_) (fun zc108_6 => absurd (by decide) zc108_6)
        refine a_aload_n (i := 0) q185_129 rfl rfl ?_
        refine a_dup q185_130 rfl ?_
        refine a_getfield q185_131 rfl rfl ?_
        refine AW.cut 147 (b2i (nI q < 4)) (fun zk147 => ?_) ?_
        · skip
          refine a_aload_n (i := 0) q185_134 rfl rfl ?_
          refine a_getfield q185_135 rfl rfl ?_
          refine a_iconst (v := 4) q185_138 (by decide) ?_
          refine a_icmp_ge (tgt := 146) q185_139 (by decide) (fun zc139 => ?_) (fun zc139 => ?_)
          · skip
            refine a_iconst (v := 0) q185_146 (by decide) ?_
            exact cutv zk147 (b2i_f (i_nlt.mpr (by have zz := zc139; rw [show ((va_up (mkI I n A) 26 0) 21 : Int32) = nI q from (mkI_o I n A 21 (by decide)).trans hf] at zz; exact zz)))
          · skip
            refine a_iconst (v := 1) q185_142 (by decide) ?_
            refine a_goto (tgt := 147) q185_143 (by decide) ?_
            exact cutv zk147 (b2i_t (i_nle.mp (by have zz := zc139; rw [show ((va_up (mkI I n A) 26 0) 21 : Int32) = nI q from (mkI_o I n A 21 (by decide)).trans hf] at zz; exact zz)))
        refine a_iadd q185_147 ?_
        refine AW.ti (show (mkI I n A) 21 + b2i (nI q < 4) = nI (kpN q) by rw [(mkI_o I n A 21 (by decide)).trans hf]; exact kp_next hq4) ?_
        refine a_putfield q185_148 rfl rfl rfl rfl ?_
        refine AW.hp (h' := hp (va_up (va_up (mkI I n A) 26 0) 21 (nI (kpN q))) (va_up (mkA I n A) 34 (stc (shF ((mkA I n A) 34) 18) 0 ((mkA I n A) 31) 6)) L O) rfl ?_
        refine a_iconst (v := 0) q185_151 (by decide) ?_
        refine a_istore_n (i := 1) (lv' := [(0, _), (1, _)]) q185_152 rfl rfl rfl ?_
        refine a_iload_n (i := 1) q185_153 rfl rfl ?_
        refine a_bipush (v := 6) q185_154 (by decide) ?_
        refine a_icmp_ge (tgt := 177) q185_156 (by decide) (fun zc156 => absurd zc156 (by decide)) (fun zc156 => ?_)
        refine a_aload_n (i := 0) q185_159 rfl rfl ?_
        refine a_getfield q185_160 rfl rfl ?_
        refine a_iload_n (i := 1) q185_163 rfl rfl ?_
        refine a_aload_n (i := 0) q185_164 rfl rfl ?_
        refine a_getfield q185_165 rfl rfl ?_
        refine a_iload_n (i := 1) q185_168 rfl rfl ?_
        refine a_iald' (j := 0) q185_169 rfl rfl (by decide) (by decide) ?_
        refine a_iast' (j := 6 * 0 + 0) q185_170 rfl rfl (by decide) (by decide) (h' := hp (va_up (va_up (mkI I n A) 26 0) 21 (nI (kpN q))) (va_up (va_up (mkA I n A) 34 (stc (shF ((mkA I n A) 34) 18) 0 ((mkA I n A) 31) 6)) 31 (stc ((mkA I n A) 31) 0 ((mkA I n A) 32) 1)) L O) rfl ?_
        refine a_iinc (v := nI (0 + 1)) (lv' := [(0, _), (1, _)]) q185_171 rfl rfl (nI_1 (0)) rfl ?_
        refine a_goto (tgt := 153) q185_174 (by decide) ?_
        refine a_iload_n (i := 1) q185_153 rfl rfl ?_
        refine a_bipush (v := 6) q185_154 (by decide) ?_
        refine a_icmp_ge (tgt := 177) q185_156 (by decide) (fun zc156_1 => absurd zc156_1 (by decide)) (fun zc156_1 => ?_)
        refine a_aload_n (i := 0) q185_159 rfl rfl ?_
        refine a_getfield q185_160 rfl rfl ?_
        refine a_iload_n (i := 1) q185_163 rfl rfl ?_
        refine a_aload_n (i := 0) q185_164 rfl rfl ?_
        refine a_getfield q185_165 rfl rfl ?_
        refine a_iload_n (i := 1) q185_168 rfl rfl ?_
        refine a_iald' (j := 1) q185_169 rfl rfl (by decide) (by decide) ?_
        refine a_iast' (j := 6 * 0 + 1) q185_170 rfl rfl (by decide) (by decide) (h' := hp (va_up (va_up (mkI I n A) 26 0) 21 (nI (kpN q))) (va_up (va_up (mkA I n A) 34 (stc (shF ((mkA I n A) 34) 18) 0 ((mkA I n A) 31) 6)) 31 (stc ((mkA I n A) 31) 0 ((mkA I n A) 32) 2)) L O) rfl ?_
        refine a_iinc (v := nI (1 + 1)) (lv' := [(0, _), (1, _)]) q185_171 rfl rfl (nI_1 (1)) rfl ?_
        refine a_goto (tgt := 153) q185_174 (by decide) ?_
        refine a_iload_n (i := 1) q185_153 rfl rfl ?_
        refine a_bipush (v := 6) q185_154 (by decide) ?_
        refine a_icmp_ge (tgt := 177) q185_156 (by decide) (fun zc156_2 => absurd zc156_2 (by decide)) (fun zc156_2 => ?_)
        refine a_aload_n (i := 0) q185_159 rfl rfl ?_
        refine a_getfield q185_160 rfl rfl ?_
        refine a_iload_n (i := 1) q185_163 rfl rfl ?_
        refine a_aload_n (i := 0) q185_164 rfl rfl ?_
        refine a_getfield q185_165 rfl rfl ?_
        refine a_iload_n (i := 1) q185_168 rfl rfl ?_
        refine a_iald' (j := 2) q185_169 rfl rfl (by decide) (by decide) ?_
        refine a_iast' (j := 6 * 0 + 2) q185_170 rfl rfl (by decide) (by decide) (h' := hp (va_up (va_up (mkI I n A) 26 0) 21 (nI (kpN q))) (va_up (va_up (mkA I n A) 34 (stc (shF ((mkA I n A) 34) 18) 0 ((mkA I n A) 31) 6)) 31 (stc ((mkA I n A) 31) 0 ((mkA I n A) 32) 3)) L O) rfl ?_
        refine a_iinc (v := nI (2 + 1)) (lv' := [(0, _), (1, _)]) q185_171 rfl rfl (nI_1 (2)) rfl ?_
        refine a_goto (tgt := 153) q185_174 (by decide) ?_
        refine a_iload_n (i := 1) q185_153 rfl rfl ?_
        refine a_bipush (v := 6) q185_154 (by decide) ?_
        refine a_icmp_ge (tgt := 177) q185_156 (by decide) (fun zc156_3 => absurd zc156_3 (by decide)) (fun zc156_3 => ?_)
        refine a_aload_n (i := 0) q185_159 rfl rfl ?_
        refine a_getfield q185_160 rfl rfl ?_
        refine a_iload_n (i := 1) q185_163 rfl rfl ?_
        refine a_aload_n (i := 0) q185_164 rfl rfl ?_
        refine a_getfield q185_165 rfl rfl ?_
        refine a_iload_n (i := 1) q185_168 rfl rfl ?_
        refine a_iald' (j := 3) q185_169 rfl rfl (by decide) (by decide) ?_
        refine a_iast' (j := 6 * 0 + 3) q185_170 rfl rfl (by decide) (by decide) (h' := hp (va_up (va_up (mkI I n A) 26 0) 21 (nI (kpN q))) (va_up (va_up (mkA I n A) 34 (stc (shF ((mkA I n A) 34) 18) 0 ((mkA I n A) 31) 6)) 31 (stc ((mkA I n A) 31) 0 ((mkA I n A) 32) 4)) L O) rfl ?_
        refine a_iinc (v := nI (3 + 1)) (lv' := [(0, _), (1, _)]) q185_171 rfl rfl (nI_1 (3)) rfl ?_
        refine a_goto (tgt := 153) q185_174 (by decide) ?_
        refine a_iload_n (i := 1) q185_153 rfl rfl ?_
        refine a_bipush (v := 6) q185_154 (by decide) ?_
        refine a_icmp_ge (tgt := 177) q185_156 (by decide) (fun zc156_4 => absurd zc156_4 (by decide)) (fun zc156_4 => ?_)
        refine a_aload_n (i := 0) q185_159 rfl rfl ?_
        refine a_getfield q185_160 rfl rfl ?_
        refine a_iload_n (i := 1) q185_163 rfl rfl ?_
        refine a_aload_n (i := 0) q185_164 rfl rfl ?_
        refine a_getfield q185_165 rfl rfl ?_
        refine a_iload_n (i := 1) q185_168 rfl rfl ?_
        refine a_iald' (j := 4) q185_169 rfl rfl (by decide) (by decide) ?_
        refine a_iast' (j := 6 * 0 + 4) q185_170 rfl rfl (by decide) (by decide) (h' := hp (va_up (va_up (mkI I n A) 26 0) 21 (nI (kpN q))) (va_up (va_up (mkA I n A) 34 (stc (shF ((mkA I n A) 34) 18) 0 ((mkA I n A) 31) 6)) 31 (stc ((mkA I n A) 31) 0 ((mkA I n A) 32) 5)) L O) rfl ?_
        refine a_iinc (v := nI (4 + 1)) (lv' := [(0, _), (1, _)]) q185_171 rfl rfl (nI_1 (4)) rfl ?_
        refine a_goto (tgt := 153) q185_174 (by decide) ?_
        refine a_iload_n (i := 1) q185_153 rfl rfl ?_
        refine a_bipush (v := 6) q185_154 (by decide) ?_
        refine a_icmp_ge (tgt := 177) q185_156 (by decide) (fun zc156_5 => absurd zc156_5 (by decide)) (fun zc156_5 => ?_)
        refine a_aload_n (i := 0) q185_159 rfl rfl ?_
        refine a_getfield q185_160 rfl rfl ?_
        refine a_iload_n (i := 1) q185_163 rfl rfl ?_
        refine a_aload_n (i := 0) q185_164 rfl rfl ?_
        refine a_getfield q185_165 rfl rfl ?_
        refine a_iload_n (i := 1) q185_168 rfl rfl ?_
        refine a_iald' (j := 5) q185_169 rfl rfl (by decide) (by decide) ?_
        refine a_iast' (j := 6 * 0 + 5) q185_170 rfl rfl (by decide) (by decide) (h' := hp (va_up (va_up (mkI I n A) 26 0) 21 (nI (kpN q))) (va_up (va_up (mkA I n A) 34 (stc (shF ((mkA I n A) 34) 18) 0 ((mkA I n A) 31) 6)) 31 (stc ((mkA I n A) 31) 0 ((mkA I n A) 32) 6)) L O) rfl ?_
        refine a_iinc (v := nI (5 + 1)) (lv' := [(0, _), (1, _)]) q185_171 rfl rfl (nI_1 (5)) rfl ?_
        refine a_goto (tgt := 153) q185_174 (by decide) ?_
        refine a_iload_n (i := 1) q185_153 rfl rfl ?_
        refine a_bipush (v := 6) q185_154 (by decide) ?_
        refine a_icmp_ge (tgt := 177) q185_156 (by decide) (fun zc156_6 => ?_) (fun zc156_6 => absurd (by decide) zc156_6)
        refine a_aload_n (i := 0) q185_177 rfl rfl ?_
        refine a_iconst (v := 1) q185_178 (by decide) ?_
        refine a_putfield q185_179 rfl rfl rfl rfl ?_
        refine a_iconst (v := 1) q185_182 (by decide) ?_
        refine a_ireturn q185_183 (nr_bool rfl (by decide)) ?_
        exact lfh (h4 zt18 zf66 zc70) rfl

theorem c_X10_pickMark {X : XS} {I : Nat → Int32} {A : Nat → Nat → Int32} {L : Nat → Nat → Int64} {O : Nat → UInt64} {Q : AO → AH → Prop}  (h1 : I 28 = 0 → Q (.inl (some (.int 45))) (hp (va_up I 26 1) A L O)) (h0 : ¬ I 28 = 0 → Q (.inl (some (.int (g_named (A 31 0))))) (hp (va_up I 26 0) A L O)) : Call X 186 [.ref 21] (hp I A L O) Q := by
  refine call_of (by decide) rfl rfl ?_
  refine a_aload_n (i := 0) q186_0 rfl rfl ?_
  refine AW.cut 13 (b2i (I 28 = 0)) (fun zk13 => ?_) ?_
  · skip
    refine a_aload_n (i := 0) q186_1 rfl rfl ?_
    refine a_getfield q186_2 rfl rfl ?_
    refine a_if_ne (tgt := 12) q186_5 (by decide) (fun zc5 => ?_) (fun zc5 => ?_)
    · skip
      refine a_iconst (v := 0) q186_12 (by decide) ?_
      exact cutv zk13 (b2i_f zc5)
    · skip
      refine a_iconst (v := 1) q186_8 (by decide) ?_
      refine a_goto (tgt := 13) q186_9 (by decide) ?_
      exact cutv zk13 (b2i_t zc5)
  refine a_iconst (v := 1) q186_13 (by decide) ?_
  refine a_cv2 q186_14 rfl rfl ⟨rfl, rfl⟩ rfl ?_
  refine c_X10_isThrown (fun zt14 => ?_) (fun zt14 => ?_)
  · skip
    refine ck_r ?_
    refine a_if_eq (tgt := 25) q186_17 (by decide) (fun zc17 => absurd zc17 (by decide)) (fun zc17 => ?_)
    refine a_bipush (v := 45) q186_20 (by decide) ?_
    refine a_goto (tgt := 34) q186_22 (by decide) ?_
    refine a_ireturn q186_34 (nr_char rfl (by first | rfl | exact nc_named _)) ?_
    exact h1 zt14
  · skip
    refine ck_r ?_
    refine a_if_eq (tgt := 25) q186_17 (by decide) (fun zc17 => ?_) (fun zc17 => absurd (by decide) zc17)
    refine a_aload_n (i := 0) q186_25 rfl rfl ?_
    refine a_getfield q186_26 rfl rfl ?_
    refine a_iconst (v := 0) q186_29 (by decide) ?_
    refine a_iald' (j := 0) q186_30 rfl rfl (by decide) (by decide) ?_
    refine a_cs1 q186_31 rfl ⟨rfl, rfl⟩ rfl ?_
    refine c_X10_named ?_
    refine ck_r ?_
    refine a_ireturn q186_34 (nr_char rfl (by first | rfl | exact nc_named _)) ?_
    exact h0 zt14

theorem c_X10_pickAggregate {X : XS} {I : Nat → Int32} {A : Nat → Nat → Int32} {L : Nat → Nat → Int64} {O : Nat → UInt64} {Q : AO → AH → Prop}  (h1 : I 28 = 0 → Q (.inl (some (.int 0))) (hp (va_up I 26 1) A L O)) (h0 : ¬ I 28 = 0 → Q (.inl (some (.int (A 31 1)))) (hp (va_up I 26 0) A L O)) : Call X 187 [.ref 21] (hp I A L O) Q := by
  refine call_of (by decide) rfl rfl ?_
  refine a_aload_n (i := 0) q187_0 rfl rfl ?_
  refine AW.cut 13 (b2i (I 28 = 0)) (fun zk13 => ?_) ?_
  · skip
    refine a_aload_n (i := 0) q187_1 rfl rfl ?_
    refine a_getfield q187_2 rfl rfl ?_
    refine a_if_ne (tgt := 12) q187_5 (by decide) (fun zc5 => ?_) (fun zc5 => ?_)
    · skip
      refine a_iconst (v := 0) q187_12 (by decide) ?_
      exact cutv zk13 (b2i_f zc5)
    · skip
      refine a_iconst (v := 1) q187_8 (by decide) ?_
      refine a_goto (tgt := 13) q187_9 (by decide) ?_
      exact cutv zk13 (b2i_t zc5)
  refine a_iconst (v := 1) q187_13 (by decide) ?_
  refine a_cv2 q187_14 rfl rfl ⟨rfl, rfl⟩ rfl ?_
  refine c_X10_isThrown (fun zt14 => ?_) (fun zt14 => ?_)
  · skip
    refine ck_r ?_
    refine a_if_eq (tgt := 24) q187_17 (by decide) (fun zc17 => absurd zc17 (by decide)) (fun zc17 => ?_)
    refine a_iconst (v := 0) q187_20 (by decide) ?_
    refine a_goto (tgt := 30) q187_21 (by decide) ?_
    refine a_ireturn q187_30 (nr_int rfl _) ?_
    exact h1 zt14
  · skip
    refine ck_r ?_
    refine a_if_eq (tgt := 24) q187_17 (by decide) (fun zc17 => ?_) (fun zc17 => absurd (by decide) zc17)
    refine a_aload_n (i := 0) q187_24 rfl rfl ?_
    refine a_getfield q187_25 rfl rfl ?_
    refine a_iconst (v := 1) q187_28 (by decide) ?_
    refine a_iald' (j := 1) q187_29 rfl rfl (by decide) (by decide) ?_
    refine a_ireturn q187_30 (nr_int rfl _) ?_
    exact h0 zt14

theorem c_X10_pickColumn {X : XS} {I : Nat → Int32} {A : Nat → Nat → Int32} {L : Nat → Nat → Int64} {O : Nat → UInt64} {Q : AO → AH → Prop} {c : Int32} (h1 : ¬ isChan c → Q (.inl (some (.int 0))) (hp (va_up I 26 1) A L O)) (h2 : isChan c → I 28 = 0 → Q (.inl (some (.int 0))) (hp (va_up I 26 2) A L O)) (h0 : ∀ i, i < 4 → c = nI i → ¬ I 28 = 0 → Q (.inl (some (.int (A 31 (2 + i))))) (hp (va_up I 26 0) A L O)) : Call X 188 [.ref 21, .int c] (hp I A L O) Q := by
  refine call_of (by decide) rfl rfl ?_
  refine a_aload_n (i := 0) q188_0 rfl rfl ?_
  refine a_iload_n (i := 1) q188_1 rfl rfl ?_
  refine a_iconst (v := 1) q188_2 (by decide) ?_
  refine a_cv2 q188_3 rfl rfl ⟨rfl, rfl⟩ rfl ?_
  refine c_X10_isNoChannel (fun zt3 => ?_) (fun zt3 => ?_)
  · skip
    refine ck_r ?_
    refine a_if_ne (tgt := 29) q188_6 (by decide) (fun zc6 => ?_) (fun zc6 => absurd zc6 (by decide))
    refine a_iconst (v := 0) q188_29 (by decide) ?_
    refine a_goto (tgt := 41) q188_30 (by decide) ?_
    refine a_ireturn q188_41 (nr_int rfl _) ?_
    exact h1 zt3
  · skip
    refine ck_r ?_
    refine a_if_ne (tgt := 29) q188_6 (by decide) (fun zc6 => absurd zc6 (by decide)) (fun zc6 => ?_)
    refine a_aload_n (i := 0) q188_9 rfl rfl ?_
    refine AW.cut 22 (b2i (I 28 = 0)) (fun zk22 => ?_) ?_
    · skip
      refine a_aload_n (i := 0) q188_10 rfl rfl ?_
      refine a_getfield q188_11 rfl rfl ?_
      refine a_if_ne (tgt := 21) q188_14 (by decide) (fun zc14 => ?_) (fun zc14 => ?_)
      · skip
        refine a_iconst (v := 0) q188_21 (by decide) ?_
        exact cutv zk22 (b2i_f zc14)
      · skip
        refine a_iconst (v := 1) q188_17 (by decide) ?_
        refine a_goto (tgt := 22) q188_18 (by decide) ?_
        exact cutv zk22 (b2i_t zc14)
    refine a_iconst (v := 2) q188_22 (by decide) ?_
    refine a_cv2 q188_23 rfl rfl ⟨rfl, rfl⟩ rfl ?_
    refine c_X10_isThrown (fun zt23 => ?_) (fun zt23 => ?_)
    · skip
      refine ck_r ?_
      refine a_if_eq (tgt := 33) q188_26 (by decide) (fun zc26 => absurd zc26 (by decide)) (fun zc26 => ?_)
      refine a_iconst (v := 0) q188_29 (by decide) ?_
      refine a_goto (tgt := 41) q188_30 (by decide) ?_
      refine a_ireturn q188_41 (nr_int rfl _) ?_
      exact lfh (h2 zt3 zt23) rfl
    · skip
      refine ck_r ?_
      refine a_if_eq (tgt := 33) q188_26 (by decide) (fun zc26 => ?_) (fun zc26 => absurd (by decide) zc26)
      obtain ⟨i, hi, zri⟩ := isChan_of zt3
      subst zri
      refine a_aload_n (i := 0) q188_33 rfl rfl ?_
      refine a_getfield q188_34 rfl rfl ?_
      refine a_iconst (v := 2) q188_37 (by decide) ?_
      refine a_iload_n (i := 1) q188_38 rfl rfl ?_
      refine a_iadd q188_39 ?_
      refine a_iald' (j := 2 + i) q188_40 rfl (nI_add 2 i) (by omega) (by decide) ?_
      refine a_ireturn q188_41 (nr_int rfl _) ?_
      exact lfh (h0 i hi rfl zt23) rfl

theorem l_drops (m : Nat) : ∀ {X : XS} {I : Nat → Int32} {A : Nat → Nat → Int32} {L : Nat → Nat → Int64} {O : Nat → UInt64} {Q : AO → AH → Prop} {r : Int32} {k q : Nat} (hn : I 21 = nI q) (hq4 : q < 4) (hm : k + m = 6 * q) (hq : Q (.inl none) (hp I (va_up A 34 (mDrp (A 34) k m)) L O)), AW X 190 15 [(0, .ref 21), (1, .int r), (2, .int (nI k))] [] (hp I A L O) 0 0 Q := by
  induction m with
  | zero =>
    intro X I A L O Q r k q hn hq4 hm hq
    refine a_iload_n (i := 2) q190_15 rfl rfl ?_
    refine a_bipush (v := 6) q190_16 (by decide) ?_
    refine a_aload_n (i := 0) q190_18 rfl rfl ?_
    refine a_getfield q190_19 rfl rfl ?_
    refine AW.ti hn ?_
    refine a_imul q190_22 ?_
    refine AW.ti (nI_6 q) ?_
    refine a_icmp_ge (tgt := 47) q190_23 (by decide) (fun zc23 => ?_) (fun zc23 => absurd (nI_le (show 6 * q ≤ k by omega) (by omega)) zc23)
    refine a_return q190_47 rfl ?_
    exact lfh hq rfl
  | succ m ih =>
    intro X I A L O Q r k q hn hq4 hm hq
    refine a_iload_n (i := 2) q190_15 rfl rfl ?_
    refine a_bipush (v := 6) q190_16 (by decide) ?_
    refine a_aload_n (i := 0) q190_18 rfl rfl ?_
    refine a_getfield q190_19 rfl rfl ?_
    refine AW.ti hn ?_
    refine a_imul q190_22 ?_
    refine AW.ti (nI_6 q) ?_
    refine a_icmp_ge (tgt := 47) q190_23 (by decide) (fun zc23 => absurd zc23 (nI_ge (show k < 6 * q by omega) (by omega))) (fun zc23 => ?_)
    refine a_aload_n (i := 0) q190_26 rfl rfl ?_
    refine a_getfield q190_27 rfl rfl ?_
    refine a_iload_n (i := 2) q190_30 rfl rfl ?_
    refine a_aload_n (i := 0) q190_31 rfl rfl ?_
    refine a_getfield q190_32 rfl rfl ?_
    refine a_iload_n (i := 2) q190_35 rfl rfl ?_
    refine a_bipush (v := 6) q190_36 (by decide) ?_
    refine a_iadd q190_38 ?_
    refine a_iald' (j := k + 6) q190_39 rfl (nI_add k 6) (by omega) (by decide) ?_
    refine a_iast' (j := k) q190_40 rfl rfl (by omega) (by decide) (h' := hp I (va_up A 34 (upd (A 34) k (A 34 (k + 6)))) L O) rfl ?_
    refine a_iinc (v := nI (k + 1)) (lv' := [(0, _), (1, _), (2, _)]) q190_41 rfl rfl (nI_1 (k)) rfl ?_
    refine a_goto (tgt := 15) q190_44 (by decide) ?_
    exact ih hn hq4 (show k + 1 + m = 6 * q by omega) (lfh hq rfl)

theorem c_X10_drops {X : XS} {I : Nat → Int32} {A : Nat → Nat → Int32} {L : Nat → Nat → Int64} {O : Nat → UInt64} {Q : AO → AH → Prop} {k q : Nat} (hn : I 21 = nI (q + 1)) (hq4 : q < 4) (hkq : k ≤ q) (hq : Q (.inl none) (hp (va_up I 21 (nI q)) (va_up A 34 (mDrp (A 34) (6 * k) (6 * q - 6 * k))) L O)) : Call X 190 [.ref 21, .int (nI k)] (hp I A L O) Q := by
  refine call_of (by decide) rfl rfl ?_
  refine a_aload_n (i := 0) q190_0 rfl rfl ?_
  refine a_dup q190_1 rfl ?_
  refine a_getfield q190_2 rfl rfl ?_
  refine a_iconst (v := 1) q190_5 (by decide) ?_
  refine a_isub q190_6 ?_
  refine AW.ti (show I 21 - 1 = nI q by rw [hn]; exact nI_pred q) ?_
  refine a_putfield q190_7 rfl rfl rfl rfl ?_
  refine AW.hp (h' := hp (va_up I 21 (nI q)) A L O) rfl ?_
  refine a_bipush (v := 6) q190_10 (by decide) ?_
  refine a_iload_n (i := 1) q190_12 rfl rfl ?_
  refine a_imul q190_13 ?_
  refine AW.ti (nI_6 k) ?_
  refine a_istore_n (i := 2) (lv' := [(0, _), (1, _), (2, _)]) q190_14 rfl rfl rfl ?_
  exact l_drops (6 * q - 6 * k) (q := q) rfl hq4 (by omega) (lfh hq rfl)

theorem c_X10_unpick {X : XS} {I : Nat → Int32} {A : Nat → Nat → Int32} {L : Nat → Nat → Int64} {O : Nat → UInt64} {Q : AO → AH → Prop} {q : Nat} (hn : I 21 = nI q) (hq4 : q ≤ 4) (h1 : q = 0 → Q (.inl (some (.int 0))) (hp (va_up I 26 1) A L O)) (h0 : ∀ j, q = j + 1 → Q (.inl (some (.int (nI j)))) (hp (va_up (va_up I 26 0) 21 (nI j)) (va_up (va_up A 31 (stc (A 31) 0 (A 34) 6)) 34 (mDrp (A 34) 0 (6 * j))) L O)) : Call X 191 [.ref 21] (hp I A L O) Q := by
  refine call_of (by decide) rfl rfl ?_
  refine a_aload_n (i := 0) q191_0 rfl rfl ?_
  refine AW.cut 13 (b2i (q = 0)) (fun zk13 => ?_) ?_
  · skip
    refine a_aload_n (i := 0) q191_1 rfl rfl ?_
    refine a_getfield q191_2 rfl rfl ?_
    refine AW.ti hn ?_
    refine a_if_ne (tgt := 12) q191_5 (by decide) (fun zc5 => ?_) (fun zc5 => ?_)
    · skip
      refine a_iconst (v := 0) q191_12 (by decide) ?_
      exact cutv zk13 (b2i_f (fun zz => zc5 (by rw [zz]; rfl)))
    · skip
      refine a_iconst (v := 1) q191_8 (by decide) ?_
      refine a_goto (tgt := 13) q191_9 (by decide) ?_
      exact cutv zk13 (b2i_t ((nI_eq (b := 0) (by omega) (by decide)).mp zc5))
  refine a_iconst (v := 1) q191_13 (by decide) ?_
  refine a_cv2 q191_14 rfl rfl ⟨rfl, rfl⟩ rfl ?_
  refine c_X10_isThrown (fun zt14 => ?_) (fun zt14 => ?_)
  · skip
    refine ck_r ?_
    refine a_if_eq (tgt := 22) q191_17 (by decide) (fun zc17 => absurd zc17 (by decide)) (fun zc17 => ?_)
    refine a_iconst (v := 0) q191_20 (by decide) ?_
    refine a_ireturn q191_21 (nr_int rfl _) ?_
    exact h1 zt14
  · skip
    refine ck_r ?_
    refine a_if_eq (tgt := 22) q191_17 (by decide) (fun zc17 => ?_) (fun zc17 => absurd (by decide) zc17)
    obtain ⟨j, zj⟩ : ∃ j, q = j + 1 := ⟨q - 1, by omega⟩
    subst zj
    refine a_iconst (v := 0) q191_22 (by decide) ?_
    refine a_istore_n (i := 1) (lv' := [(0, _), (1, _)]) q191_23 rfl rfl rfl ?_
    refine a_iload_n (i := 1) q191_24 rfl rfl ?_
    refine a_bipush (v := 6) q191_25 (by decide) ?_
    refine a_icmp_ge (tgt := 48) q191_27 (by decide) (fun zc27 => absurd zc27 (by decide)) (fun zc27 => ?_)
    refine a_aload_n (i := 0) q191_30 rfl rfl ?_
    refine a_getfield q191_31 rfl rfl ?_
    refine a_iload_n (i := 1) q191_34 rfl rfl ?_
    refine a_aload_n (i := 0) q191_35 rfl rfl ?_
    refine a_getfield q191_36 rfl rfl ?_
    refine a_iload_n (i := 1) q191_39 rfl rfl ?_
    refine a_iald' (j := 0) q191_40 rfl rfl (by decide) (by decide) ?_
    refine a_iast' (j := 6 * 0 + 0) q191_41 rfl rfl (by decide) (by decide) (h' := hp (va_up I 26 0) (va_up A 31 (stc (A 31) 0 (A 34) 1)) L O) rfl ?_
    refine a_iinc (v := nI (0 + 1)) (lv' := [(0, _), (1, _)]) q191_42 rfl rfl (nI_1 (0)) rfl ?_
    refine a_goto (tgt := 24) q191_45 (by decide) ?_
    refine a_iload_n (i := 1) q191_24 rfl rfl ?_
    refine a_bipush (v := 6) q191_25 (by decide) ?_
    refine a_icmp_ge (tgt := 48) q191_27 (by decide) (fun zc27_1 => absurd zc27_1 (by decide)) (fun zc27_1 => ?_)
    refine a_aload_n (i := 0) q191_30 rfl rfl ?_
    refine a_getfield q191_31 rfl rfl ?_
    refine a_iload_n (i := 1) q191_34 rfl rfl ?_
    refine a_aload_n (i := 0) q191_35 rfl rfl ?_
    refine a_getfield q191_36 rfl rfl ?_
    refine a_iload_n (i := 1) q191_39 rfl rfl ?_
    refine a_iald' (j := 1) q191_40 rfl rfl (by decide) (by decide) ?_
    refine a_iast' (j := 6 * 0 + 1) q191_41 rfl rfl (by decide) (by decide) (h' := hp (va_up I 26 0) (va_up A 31 (stc (A 31) 0 (A 34) 2)) L O) rfl ?_
    refine a_iinc (v := nI (1 + 1)) (lv' := [(0, _), (1, _)]) q191_42 rfl rfl (nI_1 (1)) rfl ?_
    refine a_goto (tgt := 24) q191_45 (by decide) ?_
    refine a_iload_n (i := 1) q191_24 rfl rfl ?_
    refine a_bipush (v := 6) q191_25 (by decide) ?_
    refine a_icmp_ge (tgt := 48) q191_27 (by decide) (fun zc27_2 => absurd zc27_2 (by decide)) (fun zc27_2 => ?_)
    refine a_aload_n (i := 0) q191_30 rfl rfl ?_
    refine a_getfield q191_31 rfl rfl ?_
    refine a_iload_n (i := 1) q191_34 rfl rfl ?_
    refine a_aload_n (i := 0) q191_35 rfl rfl ?_
    refine a_getfield q191_36 rfl rfl ?_
    refine a_iload_n (i := 1) q191_39 rfl rfl ?_
    refine a_iald' (j := 2) q191_40 rfl rfl (by decide) (by decide) ?_
    refine a_iast' (j := 6 * 0 + 2) q191_41 rfl rfl (by decide) (by decide) (h' := hp (va_up I 26 0) (va_up A 31 (stc (A 31) 0 (A 34) 3)) L O) rfl ?_
    refine a_iinc (v := nI (2 + 1)) (lv' := [(0, _), (1, _)]) q191_42 rfl rfl (nI_1 (2)) rfl ?_
    refine a_goto (tgt := 24) q191_45 (by decide) ?_
    refine a_iload_n (i := 1) q191_24 rfl rfl ?_
    refine a_bipush (v := 6) q191_25 (by decide) ?_
    refine a_icmp_ge (tgt := 48) q191_27 (by decide) (fun zc27_3 => absurd zc27_3 (by decide)) (fun zc27_3 => ?_)
    refine a_aload_n (i := 0) q191_30 rfl rfl ?_
    refine a_getfield q191_31 rfl rfl ?_
    refine a_iload_n (i := 1) q191_34 rfl rfl ?_
    refine a_aload_n (i := 0) q191_35 rfl rfl ?_
    refine a_getfield q191_36 rfl rfl ?_
    refine a_iload_n (i := 1) q191_39 rfl rfl ?_
    refine a_iald' (j := 3) q191_40 rfl rfl (by decide) (by decide) ?_
    refine a_iast' (j := 6 * 0 + 3) q191_41 rfl rfl (by decide) (by decide) (h' := hp (va_up I 26 0) (va_up A 31 (stc (A 31) 0 (A 34) 4)) L O) rfl ?_
    refine a_iinc (v := nI (3 + 1)) (lv' := [(0, _), (1, _)]) q191_42 rfl rfl (nI_1 (3)) rfl ?_
    refine a_goto (tgt := 24) q191_45 (by decide) ?_
    refine a_iload_n (i := 1) q191_24 rfl rfl ?_
    refine a_bipush (v := 6) q191_25 (by decide) ?_
    refine a_icmp_ge (tgt := 48) q191_27 (by decide) (fun zc27_4 => absurd zc27_4 (by decide)) (fun zc27_4 => ?_)
    refine a_aload_n (i := 0) q191_30 rfl rfl ?_
    refine a_getfield q191_31 rfl rfl ?_
    refine a_iload_n (i := 1) q191_34 rfl rfl ?_
    refine a_aload_n (i := 0) q191_35 rfl rfl ?_
    refine a_getfield q191_36 rfl rfl ?_
    refine a_iload_n (i := 1) q191_39 rfl rfl ?_
    refine a_iald' (j := 4) q191_40 rfl rfl (by decide) (by decide) ?_
    refine a_iast' (j := 6 * 0 + 4) q191_41 rfl rfl (by decide) (by decide) (h' := hp (va_up I 26 0) (va_up A 31 (stc (A 31) 0 (A 34) 5)) L O) rfl ?_
    refine a_iinc (v := nI (4 + 1)) (lv' := [(0, _), (1, _)]) q191_42 rfl rfl (nI_1 (4)) rfl ?_
    refine a_goto (tgt := 24) q191_45 (by decide) ?_
    refine a_iload_n (i := 1) q191_24 rfl rfl ?_
    refine a_bipush (v := 6) q191_25 (by decide) ?_
    refine a_icmp_ge (tgt := 48) q191_27 (by decide) (fun zc27_5 => absurd zc27_5 (by decide)) (fun zc27_5 => ?_)
    refine a_aload_n (i := 0) q191_30 rfl rfl ?_
    refine a_getfield q191_31 rfl rfl ?_
    refine a_iload_n (i := 1) q191_34 rfl rfl ?_
    refine a_aload_n (i := 0) q191_35 rfl rfl ?_
    refine a_getfield q191_36 rfl rfl ?_
    refine a_iload_n (i := 1) q191_39 rfl rfl ?_
    refine a_iald' (j := 5) q191_40 rfl rfl (by decide) (by decide) ?_
    refine a_iast' (j := 6 * 0 + 5) q191_41 rfl rfl (by decide) (by decide) (h' := hp (va_up I 26 0) (va_up A 31 (stc (A 31) 0 (A 34) 6)) L O) rfl ?_
    refine a_iinc (v := nI (5 + 1)) (lv' := [(0, _), (1, _)]) q191_42 rfl rfl (nI_1 (5)) rfl ?_
    refine a_goto (tgt := 24) q191_45 (by decide) ?_
    refine a_iload_n (i := 1) q191_24 rfl rfl ?_
    refine a_bipush (v := 6) q191_25 (by decide) ?_
    refine a_icmp_ge (tgt := 48) q191_27 (by decide) (fun zc27_6 => ?_) (fun zc27_6 => absurd (by decide) zc27_6)
    refine a_aload_n (i := 0) q191_48 rfl rfl ?_
    refine a_iconst (v := 0) q191_49 (by decide) ?_
    refine a_cv1 q191_50 rfl rfl ⟨rfl, rfl⟩ rfl ?_
    refine c_X10_drops (k := 0) (q := j) hn (by omega) (Nat.zero_le j) ?_
    refine ck_v ?_
    refine a_aload_n (i := 0) q191_53 rfl rfl ?_
    refine a_getfield q191_54 rfl rfl ?_
    refine a_ireturn q191_57 (nr_int rfl _) ?_
    exact lfi (lfh (h0 j rfl) rfl) rfl

abbrev FS := (Nat → Int32) × Nat × Nat × (Nat → Int32)
def cpr (c F : Nat → Int32) (m : Nat) : Nat → Nat → Int32
  | 0 => c
  | j + 1 => upd (cpr c F m j) j (F (6 * m + j))
def mFs (fb : (Nat → Int32) → Int32) (m : Nat) (s : FS) : FS :=
  if fb (cpr s.2.2.2 s.1 m 6) = 0 then (s.1, s.2.1, s.2.2.1, cpr s.2.2.2 s.1 m 6) else (mDrp s.1 (6 * m) (6 * (s.2.1 - 1) - 6 * m), s.2.1 - 1, s.2.2.1 + 1, cpr s.2.2.2 s.1 m 6)
def mFg (fb : (Nat → Int32) → Int32) : Nat → FS → FS
  | 0, s => s
  | m + 1, s => mFg fb m (mFs fb m s)
def vrow (F : Nat → Int32) (i : Nat) : Prop := ∀ c, c < 4 → -1 ≤ F (6 * i + (2 + c)) ∧ F (6 * i + (2 + c)) < 6
theorem cpr_v {c F : Nat → Int32} {m : Nat} (h : vrow F m) : vch (cpr c F m 6) := by
  intro k hk
  match k, hk with
  | 0, _ => exact h 0 (by decide)
  | 1, _ => exact h 1 (by decide)
  | 2, _ => exact h 2 (by decide)
  | 3, _ => exact h 3 (by decide)
  | k + 4, hk => omega
theorem mDrp_lt {x : Nat} : ∀ (c : Nat) (F : Nat → Int32) (k : Nat), x < k → mDrp F k c x = F x
  | 0, _, _, _ => rfl
  | c + 1, F, k, h => by
    rw [show mDrp F k (c + 1) = mDrp (upd F k (F (k + 6))) (k + 1) c from rfl, mDrp_lt c _ _ (by omega)]
    exact if_neg (by omega)
theorem vrow_d {F : Nat → Int32} {m c i : Nat} (hi : i < m) (h : vrow F i) : vrow (mDrp F (6 * m) c) i := by
  intro z hz
  rw [mDrp_lt c F (6 * m) (by omega)]; exact h z hz
abbrev hpF (I : Nat → Int32) (A : Nat → Nat → Int32) (L : Nat → Nat → Int64) (O : Nat → UInt64) (s : FS) : AH := hp (va_up I 21 (nI s.2.1)) (va_up (va_up A 29 s.2.2.2) 34 s.1) L O
theorem c_X10_brokenF {X : XS} {I : Nat → Int32} {A : Nat → Nat → Int32} {L : Nat → Nat → Int64} {O : Nat → UInt64} {Q : AO → AH → Prop} {w : Int32} {s : FS} (hv : vch s.2.2.2) (hw : I 27 = w) (hq : Q (.inl (some (.int (m_fb w A s.2.2.2)))) (hpF I A L O s)) : Call X 167 [.ref 21, .ref 29] (hpF I A L O s) Q := by
  have hc2 : m_fb (I 27) (va_up (va_up A 29 s.2.2.2) 34 s.1) s.2.2.2 = m_fb w A s.2.2.2 := by
    rw [hw]; exact m_fb_c (A := A) (B := va_up (va_up A 29 s.2.2.2) 34 s.1) rfl rfl rfl w s.2.2.2
  exact c_X10_broken (o := 29) (Or.inl rfl) hv (lfi hq hc2)
theorem c_X10_dropsF {X : XS} {I : Nat → Int32} {A : Nat → Nat → Int32} {L : Nat → Nat → Int64} {O : Nat → UInt64} {Q : AO → AH → Prop} {k : Nat} {s : FS} (h0 : 0 < s.2.1) (h4 : s.2.1 ≤ 4) (hkq : k ≤ s.2.1 - 1) (hq : Q (.inl none) (hpF I A L O (mDrp s.1 (6 * k) (6 * (s.2.1 - 1) - 6 * k), s.2.1 - 1, s.2.2.1 + 1, s.2.2.2))) : Call X 190 [.ref 21, .int (nI k)] (hpF I A L O s) Q := by
  refine c_X10_drops (q := s.2.1 - 1) ?_ (by omega) hkq (lfh hq rfl)
  show nI s.2.1 = nI (s.2.1 - 1 + 1)
  rw [Nat.sub_add_cancel h0]
theorem l_forget (m : Nat) : ∀ {X : XS} {I : Nat → Int32} {A : Nat → Nat → Int32} {L : Nat → Nat → Int64} {O : Nat → UInt64} {Q : AO → AH → Prop} {w : Int32} {s S : FS} (hw : I 27 = w) (hms : m ≤ s.2.1) (h4 : s.2.1 ≤ 4) (hv : ∀ i, i < m → vrow s.1 i) (he : mFg (m_fb w A) m s = S) (hq : Q (.inl (some (.int (nI S.2.2.1)))) (hpF I A L O S)), AW X 192 18 [(0, .ref 21), (1, .int (nI s.2.2.1)), (2, .int (xI m))] [] (hpF I A L O s) 0 0 Q := by
  induction m with
  | zero =>
    intro X I A L O Q w s S hw hms h4 hv he hq
    refine a_iload_n (i := 2) q192_18 rfl rfl ?_
    refine a_if_lt (tgt := 78) q192_19 (by decide) (fun zc19 => ?_) (fun zc19 => absurd (by decide) zc19)
    refine a_iload_n (i := 1) q192_78 rfl rfl ?_
    refine a_ireturn q192_79 (nr_int rfl _) ?_
    have zs : s = S := he
    subst zs
    exact hq
  | succ m ih =>
    intro X I A L O Q w s S hw hms h4 hv he hq
    refine a_iload_n (i := 2) q192_18 rfl rfl ?_
    refine a_if_lt (tgt := 78) q192_19 (by decide) (fun zc19 => absurd zc19 ((show ¬ xI (m + 1) < 0 by rw [show xI (m + 1) = nI m from nI_pred m]; exact nI_pos (by omega)))) (fun zc19 => ?_)
    refine a_iconst (v := 0) q192_22 (by decide) ?_
    refine a_istore_n (i := 3) (lv' := [(0, _), (1, _), (2, _), (3, _)]) q192_23 rfl rfl rfl ?_
    refine a_iload_n (i := 3) q192_24 rfl rfl ?_
    refine a_bipush (v := 6) q192_25 (by decide) ?_
    refine a_icmp_ge (tgt := 53) q192_27 (by decide) (fun zc27 => absurd zc27 (by decide)) (fun zc27 => ?_)
    refine a_aload_n (i := 0) q192_30 rfl rfl ?_
    refine a_getfield q192_31 rfl rfl ?_
    refine a_iload_n (i := 3) q192_34 rfl rfl ?_
    refine a_aload_n (i := 0) q192_35 rfl rfl ?_
    refine a_getfield q192_36 rfl rfl ?_
    refine a_bipush (v := 6) q192_39 (by decide) ?_
    refine a_iload_n (i := 2) q192_41 rfl rfl ?_
    refine a_imul q192_42 ?_
    refine a_iload_n (i := 3) q192_43 rfl rfl ?_
    refine a_iadd q192_44 ?_
    refine AW.ti (show (6 : Int32) * xI (m + 1) + nI 0 = nI (6 * m + 0) by rw [show xI (m + 1) = nI m from nI_pred m]; exact nI_ix6 m 0) ?_
    refine a_iald' (j := 6 * m + 0) q192_45 rfl rfl (by omega) (by decide) ?_
    refine a_iast' (j := 0) q192_46 rfl rfl (by decide) (by decide) (h' := hpF I A L O (s.1, s.2.1, s.2.2.1, cpr s.2.2.2 s.1 m 1)) rfl ?_
    refine a_iinc (v := nI (0 + 1)) (lv' := [(0, _), (1, _), (2, _), (3, _)]) q192_47 rfl rfl (nI_1 (0)) rfl ?_
    refine a_goto (tgt := 24) q192_50 (by decide) ?_
    refine a_iload_n (i := 3) q192_24 rfl rfl ?_
    refine a_bipush (v := 6) q192_25 (by decide) ?_
    refine a_icmp_ge (tgt := 53) q192_27 (by decide) (fun zc27_1 => absurd zc27_1 (by decide)) (fun zc27_1 => ?_)
    refine a_aload_n (i := 0) q192_30 rfl rfl ?_
    refine a_getfield q192_31 rfl rfl ?_
    refine a_iload_n (i := 3) q192_34 rfl rfl ?_
    refine a_aload_n (i := 0) q192_35 rfl rfl ?_
    refine a_getfield q192_36 rfl rfl ?_
    refine a_bipush (v := 6) q192_39 (by decide) ?_
    refine a_iload_n (i := 2) q192_41 rfl rfl ?_
    refine a_imul q192_42 ?_
    refine a_iload_n (i := 3) q192_43 rfl rfl ?_
    refine a_iadd q192_44 ?_
    refine AW.ti (show (6 : Int32) * xI (m + 1) + nI 1 = nI (6 * m + 1) by rw [show xI (m + 1) = nI m from nI_pred m]; exact nI_ix6 m 1) ?_
    refine a_iald' (j := 6 * m + 1) q192_45 rfl rfl (by omega) (by decide) ?_
    refine a_iast' (j := 1) q192_46 rfl rfl (by decide) (by decide) (h' := hpF I A L O (s.1, s.2.1, s.2.2.1, cpr s.2.2.2 s.1 m 2)) rfl ?_
    refine a_iinc (v := nI (1 + 1)) (lv' := [(0, _), (1, _), (2, _), (3, _)]) q192_47 rfl rfl (nI_1 (1)) rfl ?_
    refine a_goto (tgt := 24) q192_50 (by decide) ?_
    refine a_iload_n (i := 3) q192_24 rfl rfl ?_
    refine a_bipush (v := 6) q192_25 (by decide) ?_
    refine a_icmp_ge (tgt := 53) q192_27 (by decide) (fun zc27_2 => absurd zc27_2 (by decide)) (fun zc27_2 => ?_)
    refine a_aload_n (i := 0) q192_30 rfl rfl ?_
    refine a_getfield q192_31 rfl rfl ?_
    refine a_iload_n (i := 3) q192_34 rfl rfl ?_
    refine a_aload_n (i := 0) q192_35 rfl rfl ?_
    refine a_getfield q192_36 rfl rfl ?_
    refine a_bipush (v := 6) q192_39 (by decide) ?_
    refine a_iload_n (i := 2) q192_41 rfl rfl ?_
    refine a_imul q192_42 ?_
    refine a_iload_n (i := 3) q192_43 rfl rfl ?_
    refine a_iadd q192_44 ?_
    refine AW.ti (show (6 : Int32) * xI (m + 1) + nI 2 = nI (6 * m + 2) by rw [show xI (m + 1) = nI m from nI_pred m]; exact nI_ix6 m 2) ?_
    refine a_iald' (j := 6 * m + 2) q192_45 rfl rfl (by omega) (by decide) ?_
    refine a_iast' (j := 2) q192_46 rfl rfl (by decide) (by decide) (h' := hpF I A L O (s.1, s.2.1, s.2.2.1, cpr s.2.2.2 s.1 m 3)) rfl ?_
    refine a_iinc (v := nI (2 + 1)) (lv' := [(0, _), (1, _), (2, _), (3, _)]) q192_47 rfl rfl (nI_1 (2)) rfl ?_
    refine a_goto (tgt := 24) q192_50 (by decide) ?_
    refine a_iload_n (i := 3) q192_24 rfl rfl ?_
    refine a_bipush (v := 6) q192_25 (by decide) ?_
    refine a_icmp_ge (tgt := 53) q192_27 (by decide) (fun zc27_3 => absurd zc27_3 (by decide)) (fun zc27_3 => ?_)
    refine a_aload_n (i := 0) q192_30 rfl rfl ?_
    refine a_getfield q192_31 rfl rfl ?_
    refine a_iload_n (i := 3) q192_34 rfl rfl ?_
    refine a_aload_n (i := 0) q192_35 rfl rfl ?_
    refine a_getfield q192_36 rfl rfl ?_
    refine a_bipush (v := 6) q192_39 (by decide) ?_
    refine a_iload_n (i := 2) q192_41 rfl rfl ?_
    refine a_imul q192_42 ?_
    refine a_iload_n (i := 3) q192_43 rfl rfl ?_
    refine a_iadd q192_44 ?_
    refine AW.ti (show (6 : Int32) * xI (m + 1) + nI 3 = nI (6 * m + 3) by rw [show xI (m + 1) = nI m from nI_pred m]; exact nI_ix6 m 3) ?_
    refine a_iald' (j := 6 * m + 3) q192_45 rfl rfl (by omega) (by decide) ?_
    refine a_iast' (j := 3) q192_46 rfl rfl (by decide) (by decide) (h' := hpF I A L O (s.1, s.2.1, s.2.2.1, cpr s.2.2.2 s.1 m 4)) rfl ?_
    refine a_iinc (v := nI (3 + 1)) (lv' := [(0, _), (1, _), (2, _), (3, _)]) q192_47 rfl rfl (nI_1 (3)) rfl ?_
    refine a_goto (tgt := 24) q192_50 (by decide) ?_
    refine a_iload_n (i := 3) q192_24 rfl rfl ?_
    refine a_bipush (v := 6) q192_25 (by decide) ?_
    refine a_icmp_ge (tgt := 53) q192_27 (by decide) (fun zc27_4 => absurd zc27_4 (by decide)) (fun zc27_4 => ?_)
    refine a_aload_n (i := 0) q192_30 rfl rfl ?_
    refine a_getfield q192_31 rfl rfl ?_
    refine a_iload_n (i := 3) q192_34 rfl rfl ?_
    refine a_aload_n (i := 0) q192_35 rfl rfl ?_
    refine a_getfield q192_36 rfl rfl ?_
    refine a_bipush (v := 6) q192_39 (by decide) ?_
    refine a_iload_n (i := 2) q192_41 rfl rfl ?_
    refine a_imul q192_42 ?_
    refine a_iload_n (i := 3) q192_43 rfl rfl ?_
    refine a_iadd q192_44 ?_
    refine AW.ti (show (6 : Int32) * xI (m + 1) + nI 4 = nI (6 * m + 4) by rw [show xI (m + 1) = nI m from nI_pred m]; exact nI_ix6 m 4) ?_
    refine a_iald' (j := 6 * m + 4) q192_45 rfl rfl (by omega) (by decide) ?_
    refine a_iast' (j := 4) q192_46 rfl rfl (by decide) (by decide) (h' := hpF I A L O (s.1, s.2.1, s.2.2.1, cpr s.2.2.2 s.1 m 5)) rfl ?_
    refine a_iinc (v := nI (4 + 1)) (lv' := [(0, _), (1, _), (2, _), (3, _)]) q192_47 rfl rfl (nI_1 (4)) rfl ?_
    refine a_goto (tgt := 24) q192_50 (by decide) ?_
    refine a_iload_n (i := 3) q192_24 rfl rfl ?_
    refine a_bipush (v := 6) q192_25 (by decide) ?_
    refine a_icmp_ge (tgt := 53) q192_27 (by decide) (fun zc27_5 => absurd zc27_5 (by decide)) (fun zc27_5 => ?_)
    refine a_aload_n (i := 0) q192_30 rfl rfl ?_
    refine a_getfield q192_31 rfl rfl ?_
    refine a_iload_n (i := 3) q192_34 rfl rfl ?_
    refine a_aload_n (i := 0) q192_35 rfl rfl ?_
    refine a_getfield q192_36 rfl rfl ?_
    refine a_bipush (v := 6) q192_39 (by decide) ?_
    refine a_iload_n (i := 2) q192_41 rfl rfl ?_
    refine a_imul q192_42 ?_
    refine a_iload_n (i := 3) q192_43 rfl rfl ?_
    refine a_iadd q192_44 ?_
    refine AW.ti (show (6 : Int32) * xI (m + 1) + nI 5 = nI (6 * m + 5) by rw [show xI (m + 1) = nI m from nI_pred m]; exact nI_ix6 m 5) ?_
    refine a_iald' (j := 6 * m + 5) q192_45 rfl rfl (by omega) (by decide) ?_
    refine a_iast' (j := 5) q192_46 rfl rfl (by decide) (by decide) (h' := hpF I A L O (s.1, s.2.1, s.2.2.1, cpr s.2.2.2 s.1 m 6)) rfl ?_
    refine a_iinc (v := nI (5 + 1)) (lv' := [(0, _), (1, _), (2, _), (3, _)]) q192_47 rfl rfl (nI_1 (5)) rfl ?_
    refine a_goto (tgt := 24) q192_50 (by decide) ?_
    refine a_iload_n (i := 3) q192_24 rfl rfl ?_
    refine a_bipush (v := 6) q192_25 (by decide) ?_
    refine a_icmp_ge (tgt := 53) q192_27 (by decide) (fun zc27_6 => ?_) (fun zc27_6 => absurd (by decide) zc27_6)
    refine a_aload_n (i := 0) q192_53 rfl rfl ?_
    refine a_aload_n (i := 0) q192_54 rfl rfl ?_
    refine a_getfield q192_55 rfl rfl ?_
    refine a_cv1 q192_58 rfl rfl ⟨rfl, rfl⟩ rfl ?_
    refine c_X10_brokenF (s := (s.1, s.2.1, s.2.2.1, cpr s.2.2.2 s.1 m 6)) (cpr_v (hv m (by omega))) hw ?_
    refine ck_r ?_
    refine a_if_eq (tgt := 72) q192_61 (by decide) (fun zc61 => ?_) (fun zc61 => ?_)
    · skip
      refine a_iinc (v := xI m) (lv' := [(0, _), (1, _), (2, _), (3, _)]) q192_72 rfl rfl (show xI (m + 1) + Int32.ofInt (-1) = xI m by rw [show xI (m + 1) = nI m from nI_pred m]; exact nI_x1 m) rfl ?_
      refine a_goto (tgt := 18) q192_75 (by decide) ?_
      refine AW.pop_less (x := (3, _)) (lv' := [(0, _), (1, _), (2, _)]) ?_
      have ze : mFs (m_fb w A) m s = (s.1, s.2.1, s.2.2.1, cpr s.2.2.2 s.1 m 6) := if_pos zc61
      rw [show mFg (m_fb w A) (m + 1) s = mFg (m_fb w A) m (mFs (m_fb w A) m s) from rfl, ze] at he
      exact ih (s := (s.1, s.2.1, s.2.2.1, cpr s.2.2.2 s.1 m 6)) hw (show m ≤ s.2.1 by omega) h4 (fun i hi => hv i (by omega)) he hq
    · skip
      refine a_aload_n (i := 0) q192_64 rfl rfl ?_
      refine a_iload_n (i := 2) q192_65 rfl rfl ?_
      refine AW.ti (show xI (m + 1) = nI m from nI_pred m) ?_
      refine a_cv1 q192_66 rfl rfl ⟨rfl, rfl⟩ rfl ?_
      refine c_X10_dropsF (k := m) (s := (s.1, s.2.1, s.2.2.1, cpr s.2.2.2 s.1 m 6)) (show 0 < s.2.1 by omega) h4 (show m ≤ s.2.1 - 1 by omega) ?_
      refine ck_v ?_
      refine a_iinc (v := nI (s.2.2.1 + 1)) (lv' := [(0, _), (1, _), (2, _), (3, _)]) q192_69 rfl rfl (nI_1 (s.2.2.1)) rfl ?_
      refine a_iinc (v := xI m) (lv' := [(0, _), (1, _), (2, _), (3, _)]) q192_72 rfl rfl (show xI (m + 1) + Int32.ofInt (-1) = xI m by rw [show xI (m + 1) = nI m from nI_pred m]; exact nI_x1 m) rfl ?_
      refine a_goto (tgt := 18) q192_75 (by decide) ?_
      refine AW.pop_less (x := (3, _)) (lv' := [(0, _), (1, _), (2, _)]) ?_
      have ze : mFs (m_fb w A) m s = (mDrp s.1 (6 * m) (6 * (s.2.1 - 1) - 6 * m), s.2.1 - 1, s.2.2.1 + 1, cpr s.2.2.2 s.1 m 6) := if_neg zc61
      rw [show mFg (m_fb w A) (m + 1) s = mFg (m_fb w A) m (mFs (m_fb w A) m s) from rfl, ze] at he
      exact ih (s := (mDrp s.1 (6 * m) (6 * (s.2.1 - 1) - 6 * m), s.2.1 - 1, s.2.2.1 + 1, cpr s.2.2.2 s.1 m 6)) hw (show m ≤ s.2.1 - 1 by omega) (show s.2.1 - 1 ≤ 4 by omega) (fun i hi => vrow_d hi (hv i (by omega))) he hq

theorem forget_end {X : XS} {I : Nat → Int32} {A : Nat → Nat → Int32} {L : Nat → Nat → Int64} {O : Nat → UInt64} {Q : AO → AH → Prop} {q : Nat} {w : Int32} {S : FS} (hw : I 27 = w) (hf : I 21 = nI q) (hq4 : q ≤ 4) (hv : ∀ i, i < q → vrow (A 34) i) (he : mFg (m_fb w A) q (A 34, q, 0, A 29) = S) (hq : Q (.inl (some (.int (nI S.2.2.1)))) (hpF I A L O S)) : AW X 192 18 [(0, .ref 21), (1, .int 0), (2, .int (xI q))] [] (hp I A L O) 0 0 Q := by
  have hf2 : va_up I 21 (nI q) = I := by rw [← hf]; exact va_self I 21
  refine AW.hp (h' := hpF I A L O (A 34, q, 0, A 29)) ?_ ?_
  · show hp I A L O = hp (va_up I 21 (nI q)) (va_up (va_up A 29 (A 29)) 34 (A 34)) L O
    rw [hf2]; rfl
  exact l_forget q (s := (A 34, q, 0, A 29)) hw (Nat.le_refl q) hq4 hv he hq
theorem c_X10_forget {X : XS} {I : Nat → Int32} {A : Nat → Nat → Int32} {L : Nat → Nat → Int64} {O : Nat → UInt64} {Q : AO → AH → Prop} {n : Nat} (hn : I 20 = nI n) (hn40 : n ≤ 40) {q : Nat} (hf : I 21 = nI q) (hq4 : q ≤ 4) (hv : ∀ i, i < q → vrow (A 34) i) {S : FS} (he : mFg (m_fb (I 27) (kndA A n 6)) q ((kndA A n 6) 34, q, 0, (kndA A n 6) 29) = S) (hq : Q (.inl (some (.int (nI S.2.2.1)))) (hpF (va_up I 26 0) (kndA A n 6) L O S)) : Call X 192 [.ref 21] (hp I A L O) Q := by
  refine call_of (by decide) rfl rfl ?_
  refine a_aload_n (i := 0) q192_0 rfl rfl ?_
  refine a_iconst (v := 0) q192_1 (by decide) ?_
  refine a_putfield q192_2 rfl rfl rfl rfl ?_
  refine AW.hp (h' := hp (va_up I 26 0) A L O) rfl ?_
  refine a_aload_n (i := 0) q192_5 rfl rfl ?_
  refine a_cv0 q192_6 rfl rfl ⟨rfl, rfl⟩ rfl ?_
  refine c_X10_kinds hn hn40 ?_
  refine ck_v ?_
  refine a_iconst (v := 0) q192_9 (by decide) ?_
  refine a_istore_n (i := 1) (lv' := [(0, _), (1, _)]) q192_10 rfl rfl rfl ?_
  refine a_aload_n (i := 0) q192_11 rfl rfl ?_
  refine a_getfield q192_12 rfl rfl ?_
  refine a_iconst (v := 1) q192_15 (by decide) ?_
  refine a_isub q192_16 ?_
  refine AW.ti (show I 21 - 1 = xI q by rw [hf]; rfl) ?_
  refine a_istore_n (i := 2) (lv' := [(0, _), (1, _), (2, _)]) q192_17 rfl rfl rfl ?_
  exact forget_end (w := I 27) rfl hf hq4 hv he hq

def mk_of (m : Int32) : Int32 := if m = 98 then 0 else if m = 108 then 1 else 2
theorem c_X10_draftMark {X : XS} {I : Nat → Int32} {A : Nat → Nat → Int32} {L : Nat → Nat → Int64} {O : Nat → UInt64} {Q : AO → AH → Prop} {m : Int32} (h1 : ¬ isMk m → Q (.inl (some (.int 45))) (hp (va_up I 26 1) A L O)) (h0 : isMk m → Q (.inl (some (.int (g_named (A 30 0))))) (hp (va_up (va_up I 26 0) 29 0) (va_up A 30 (upd (A 30) 0 (mk_of m))) L O)) : Call X 193 [.ref 21, .int m] (hp I A L O) Q := by
  refine call_of (by decide) rfl rfl ?_
  refine a_aload_n (i := 0) q193_0 rfl rfl ?_
  refine AW.cut 13 (b2i (¬ isMk m)) (fun zk13 => ?_) ?_
  · skip
    refine a_iload_n (i := 1) q193_1 rfl rfl ?_
    refine a_cs1 q193_2 rfl ⟨rfl, rfl⟩ rfl ?_
    refine c_X10_isMark ?_
    refine ck_r ?_
    refine a_if_ne (tgt := 12) q193_5 (by decide) (fun zc5 => ?_) (fun zc5 => ?_)
    · skip
      refine a_iconst (v := 0) q193_12 (by decide) ?_
      exact cutv zk13 (b2i_f (fun zz => zz (b2i_nz.mp zc5)))
    · skip
      refine a_iconst (v := 1) q193_8 (by decide) ?_
      refine a_goto (tgt := 13) q193_9 (by decide) ?_
      exact cutv zk13 (b2i_t (b2i_z.mp zc5))
  refine a_iconst (v := 1) q193_13 (by decide) ?_
  refine a_cv2 q193_14 rfl rfl ⟨rfl, rfl⟩ rfl ?_
  refine c_X10_isThrown (fun zt14 => ?_) (fun zt14 => ?_)
  · skip
    refine ck_r ?_
    refine a_if_eq (tgt := 23) q193_17 (by decide) (fun zc17 => absurd zc17 (by decide)) (fun zc17 => ?_)
    refine a_bipush (v := 45) q193_20 (by decide) ?_
    refine a_ireturn q193_22 (nr_char rfl (by first | rfl | exact nc_named _)) ?_
    exact h1 zt14
  · skip
    refine ck_r ?_
    refine a_if_eq (tgt := 23) q193_17 (by decide) (fun zc17 => ?_) (fun zc17 => absurd (by decide) zc17)
    refine a_aload_n (i := 0) q193_23 rfl rfl ?_
    refine a_getfield q193_24 rfl rfl ?_
    refine a_iconst (v := 0) q193_27 (by decide) ?_
    refine a_iald' (j := 0) q193_28 rfl rfl (by decide) (by decide) ?_
    refine a_cs1 q193_29 rfl ⟨rfl, rfl⟩ rfl ?_
    refine c_X10_named ?_
    refine ck_r ?_
    refine a_istore_n (i := 2) (lv' := [(0, _), (1, _), (2, _)]) q193_32 rfl rfl rfl ?_
    refine a_aload_n (i := 0) q193_33 rfl rfl ?_
    refine a_iconst (v := 0) q193_34 (by decide) ?_
    refine a_putfield q193_35 rfl rfl rfl rfl ?_
    refine AW.hp (h' := hp (va_up (va_up I 26 0) 29 0) A L O) rfl ?_
    refine a_aload_n (i := 0) q193_38 rfl rfl ?_
    refine a_getfield q193_39 rfl rfl ?_
    refine a_iconst (v := 0) q193_42 (by decide) ?_
    refine AW.cut 64 (mk_of m) (fun zk64 => ?_) ?_
    · skip
      refine a_iload_n (i := 1) q193_43 rfl rfl ?_
      refine a_bipush (v := 98) q193_44 (by decide) ?_
      refine a_icmp_ne (tgt := 53) q193_46 (by decide) (fun zc46 => ?_) (fun zc46 => ?_)
      · skip
        refine a_iload_n (i := 1) q193_53 rfl rfl ?_
        refine a_bipush (v := 108) q193_54 (by decide) ?_
        refine a_icmp_ne (tgt := 63) q193_56 (by decide) (fun zc56 => ?_) (fun zc56 => ?_)
        · skip
          refine a_iconst (v := 2) q193_63 (by decide) ?_
          exact cutv zk64 ((if_neg zc46).trans (if_neg zc56))
        · skip
          refine a_iconst (v := 1) q193_59 (by decide) ?_
          refine a_goto (tgt := 64) q193_60 (by decide) ?_
          exact cutv zk64 ((if_neg zc46).trans (if_pos zc56))
      · skip
        refine a_iconst (v := 0) q193_49 (by decide) ?_
        refine a_goto (tgt := 64) q193_50 (by decide) ?_
        exact cutv zk64 (if_pos zc46)
    refine a_iast' (j := 0) q193_64 rfl rfl (by decide) (by decide) (h' := hp (va_up (va_up I 26 0) 29 0) (va_up A 30 (upd (A 30) 0 (mk_of m))) L O) rfl ?_
    refine a_iload_n (i := 2) q193_65 rfl rfl ?_
    refine a_ireturn q193_66 (nr_char rfl (by first | rfl | exact nc_named _)) ?_
    exact h0 (b2i_not zt14)

theorem c_X10_draftAggregate {X : XS} {I : Nat → Int32} {A : Nat → Nat → Int32} {L : Nat → Nat → Int64} {O : Nat → UInt64} {Q : AO → AH → Prop} {a : Int32} (h1 : ¬ (a = 0 ∨ a = 1 ∨ a = 2) → Q (.inl (some (.int 0))) (hp (va_up I 26 1) A L O)) (h0 : (a = 0 ∨ a = 1 ∨ a = 2) → Q (.inl (some (.int (A 30 1)))) (hp (va_up (va_up I 26 0) 29 0) (va_up A 30 (upd (A 30) 1 a)) L O)) : Call X 194 [.ref 21, .int a] (hp I A L O) Q := by
  refine call_of (by decide) rfl rfl ?_
  refine a_aload_n (i := 0) q194_0 rfl rfl ?_
  refine AW.cut 15 (b2i (¬ (a = 0 ∨ a = 1 ∨ a = 2))) (fun zk15 => ?_) ?_
  · skip
    refine a_iload_n (i := 1) q194_1 rfl rfl ?_
    refine a_iconst (v := 0) q194_2 (by decide) ?_
    refine a_iconst (v := 2) q194_3 (by decide) ?_
    refine a_cs3 q194_4 rfl ⟨rfl, rfl⟩ rfl ?_
    refine c_X10_isIn ?_
    refine ck_r ?_
    refine a_if_ne (tgt := 14) q194_7 (by decide) (fun zc7 => ?_) (fun zc7 => ?_)
    · skip
      refine a_iconst (v := 0) q194_14 (by decide) ?_
      exact cutv zk15 (by have zl := lits; unfold b2i; split <;> ((try simp only [b2i_z, Classical.not_not] at *) <;> ((try simp only [isCol, isChan, isMk, isVal, i_lt, i_le, i_eq] at *) <;> omega)))
    · skip
      refine a_iconst (v := 1) q194_10 (by decide) ?_
      refine a_goto (tgt := 15) q194_11 (by decide) ?_
      exact cutv zk15 (by have zl := lits; unfold b2i; split <;> ((try simp only [b2i_z, Classical.not_not] at *) <;> ((try simp only [isCol, isChan, isMk, isVal, i_lt, i_le, i_eq] at *) <;> omega)))
  refine a_iconst (v := 1) q194_15 (by decide) ?_
  refine a_cv2 q194_16 rfl rfl ⟨rfl, rfl⟩ rfl ?_
  refine c_X10_isThrown (fun zt16 => ?_) (fun zt16 => ?_)
  · skip
    refine ck_r ?_
    refine a_if_eq (tgt := 24) q194_19 (by decide) (fun zc19 => absurd zc19 (by decide)) (fun zc19 => ?_)
    refine a_iconst (v := 0) q194_22 (by decide) ?_
    refine a_ireturn q194_23 (nr_int rfl _) ?_
    exact h1 zt16
  · skip
    refine ck_r ?_
    refine a_if_eq (tgt := 24) q194_19 (by decide) (fun zc19 => ?_) (fun zc19 => absurd (by decide) zc19)
    refine a_aload_n (i := 0) q194_24 rfl rfl ?_
    refine a_getfield q194_25 rfl rfl ?_
    refine a_iconst (v := 1) q194_28 (by decide) ?_
    refine a_iald' (j := 1) q194_29 rfl rfl (by decide) (by decide) ?_
    refine a_istore_n (i := 2) (lv' := [(0, _), (1, _), (2, _)]) q194_30 rfl rfl rfl ?_
    refine a_aload_n (i := 0) q194_31 rfl rfl ?_
    refine a_iconst (v := 0) q194_32 (by decide) ?_
    refine a_putfield q194_33 rfl rfl rfl rfl ?_
    refine AW.hp (h' := hp (va_up (va_up I 26 0) 29 0) A L O) rfl ?_
    refine a_aload_n (i := 0) q194_36 rfl rfl ?_
    refine a_getfield q194_37 rfl rfl ?_
    refine a_iconst (v := 1) q194_40 (by decide) ?_
    refine a_iload_n (i := 1) q194_41 rfl rfl ?_
    refine a_iast' (j := 1) q194_42 rfl rfl (by decide) (by decide) (h' := hp (va_up (va_up I 26 0) 29 0) (va_up A 30 (upd (A 30) 1 a)) L O) rfl ?_
    refine a_iload_n (i := 2) q194_43 rfl rfl ?_
    refine a_ireturn q194_44 (nr_int rfl _) ?_
    exact h0 (b2i_not zt16)

abbrev m_el (A : Nat → Nat → Int32) (i : Nat) (c : Int32) (z : Nat) : Prop := ¬ nI z = nI i ∧ 0 ≤ c ∧ A 30 (2 + z) = c
abbrev m_els (A : Nat → Nat → Int32) (i : Nat) (c : Int32) : Prop := ((m_el A i c 0 ∨ m_el A i c 1) ∨ m_el A i c 2) ∨ m_el A i c 3
theorem c_X10_draftColumn {X : XS} {I : Nat → Int32} {A : Nat → Nat → Int32} {L : Nat → Nat → Int64} {O : Nat → UInt64} {Q : AO → AH → Prop} {k c : Int32} (h1 : ¬ (isChan k ∧ (c = -1 ∨ isCol c)) → Q (.inl (some (.int 0))) (hp (va_up I 26 1) A L O)) (h2 : ∀ i, i < 4 → k = nI i → (c = -1 ∨ isCol c) → m_els A i c → Q (.inl (some (.int 0))) (hp (va_up I 26 2) A L O)) (h0 : ∀ i, i < 4 → k = nI i → (c = -1 ∨ isCol c) → ¬ m_els A i c → Q (.inl (some (.int (A 30 (2 + i))))) (hp (va_up (va_up I 26 0) 29 0) (va_up A 30 (upd (A 30) (2 + i) c)) L O)) : Call X 195 [.ref 21, .int k, .int c] (hp I A L O) Q := by
  refine call_of (by decide) rfl rfl ?_
  refine a_aload_n (i := 0) q195_0 rfl rfl ?_
  refine AW.cut 24 (b2i (¬ (isChan k ∧ (c = -1 ∨ isCol c)))) (fun zk24 => ?_) ?_
  · skip
    refine a_iload_n (i := 1) q195_1 rfl rfl ?_
    refine a_iconst (v := 0) q195_2 (by decide) ?_
    refine a_iconst (v := 3) q195_3 (by decide) ?_
    refine a_cs3 q195_4 rfl ⟨rfl, rfl⟩ rfl ?_
    refine c_X10_isIn (lfi (x := b2i (isChan k)) ?_ (by have zl := lits; unfold b2i; simp only [isChan]; split <;> split <;> ((try simp only [b2i_z, Classical.not_not] at *) <;> ((try simp only [isCol, isChan, isMk, isVal, i_lt, i_le, i_eq] at *) <;> omega))))
    refine ck_r ?_
    refine a_if_eq (tgt := 19) q195_7 (by decide) (fun zc7 => ?_) (fun zc7 => ?_)
    · skip
      refine a_iconst (v := 1) q195_19 (by decide) ?_
      refine a_goto (tgt := 24) q195_20 (by decide) ?_
      exact cutv zk24 (b2i_t (fun zz => b2i_z.mp zc7 zz.1))
    · skip
      refine a_iload_n (i := 2) q195_10 rfl rfl ?_
      refine a_iconst (v := (-1)) q195_11 (by decide) ?_
      refine a_iconst (v := 5) q195_12 (by decide) ?_
      refine a_cs3 q195_13 rfl ⟨rfl, rfl⟩ rfl ?_
      refine c_X10_isIn (lfi (x := b2i (c = -1 ∨ isCol c)) ?_ (by have zl := lits; unfold b2i; simp only [isCol]; split <;> split <;> ((try simp only [b2i_z, Classical.not_not] at *) <;> ((try simp only [isCol, isChan, isMk, isVal, i_lt, i_le, i_eq] at *) <;> omega))))
      refine ck_r ?_
      refine a_if_ne (tgt := 23) q195_16 (by decide) (fun zc16 => ?_) (fun zc16 => ?_)
      · skip
        refine a_iconst (v := 0) q195_23 (by decide) ?_
        exact cutv zk24 (b2i_f (fun zz => zz ⟨b2i_nz.mp zc7, b2i_nz.mp zc16⟩))
      · skip
        refine a_iconst (v := 1) q195_19 (by decide) ?_
        refine a_goto (tgt := 24) q195_20 (by decide) ?_
        exact cutv zk24 (b2i_t (fun zz => b2i_z.mp zc16 zz.2))
  refine a_iconst (v := 1) q195_24 (by decide) ?_
  refine a_cv2 q195_25 rfl rfl ⟨rfl, rfl⟩ rfl ?_
  refine c_X10_isThrown (fun zt25 => ?_) (fun zt25 => ?_)
  · skip
    refine ck_r ?_
    refine a_if_eq (tgt := 33) q195_28 (by decide) (fun zc28 => absurd zc28 (by decide)) (fun zc28 => ?_)
    refine a_iconst (v := 0) q195_31 (by decide) ?_
    refine a_ireturn q195_32 (nr_int rfl _) ?_
    exact h1 zt25
  · skip
    refine ck_r ?_
    refine a_if_eq (tgt := 33) q195_28 (by decide) (fun zc28 => ?_) (fun zc28 => absurd (by decide) zc28)
    obtain ⟨i, hi, zri⟩ := isChan_of (b2i_not zt25).1
    subst zri
    refine a_iconst (v := 0) q195_33 (by decide) ?_
    refine a_istore_n (i := 3) (lv' := [(0, _), (1, _), (2, _), (3, _)]) q195_34 rfl rfl rfl ?_
    refine a_iconst (v := 0) q195_35 (by decide) ?_
    refine a_istore (i := 4) (lv' := [(0, _), (1, _), (2, _), (3, _), (4, _)]) q195_36 rfl rfl ?_
    refine a_iload q195_38 rfl ?_
    refine a_iconst (v := 4) q195_40 (by decide) ?_
    refine a_icmp_ge (tgt := 81) q195_41 (by decide) (fun zc41 => absurd zc41 (by decide)) (fun zc41 => ?_)
    refine a_iload_n (i := 3) q195_44 rfl rfl ?_
    refine AW.cut 73 (b2i (m_el A i c 0)) (fun zk73 => ?_) ?_
    · skip
      refine a_iload q195_45 rfl ?_
      refine a_iload_n (i := 1) q195_47 rfl rfl ?_
      refine a_icmp_eq (tgt := 72) q195_48 (by decide) (fun zc48 => ?_) (fun zc48 => ?_)
      · skip
        refine a_iconst (v := 0) q195_72 (by decide) ?_
        exact cutv zk73 (b2i_f (fun zz => zz.1 zc48))
      · skip
        refine a_iload_n (i := 2) q195_51 rfl rfl ?_
        refine a_if_lt (tgt := 72) q195_52 (by decide) (fun zc52 => ?_) (fun zc52 => ?_)
        · skip
          refine a_iconst (v := 0) q195_72 (by decide) ?_
          exact cutv zk73 (b2i_f (fun zz => absurd zz.2.1 (i_nle.mpr zc52)))
        · skip
          refine a_aload_n (i := 0) q195_55 rfl rfl ?_
          refine a_getfield q195_56 rfl rfl ?_
          refine a_iconst (v := 2) q195_59 (by decide) ?_
          refine a_iload q195_60 rfl ?_
          refine a_iadd q195_62 ?_
          refine a_iald' (j := 2 + 0) q195_63 rfl (nI_add 2 0) (by decide) (by decide) ?_
          refine a_iload_n (i := 2) q195_64 rfl rfl ?_
          refine a_icmp_ne (tgt := 72) q195_65 (by decide) (fun zc65 => ?_) (fun zc65 => ?_)
          · skip
            refine a_iconst (v := 0) q195_72 (by decide) ?_
            exact cutv zk73 (b2i_f (fun zz => zc65 zz.2.2))
          · skip
            refine a_iconst (v := 1) q195_68 (by decide) ?_
            refine a_goto (tgt := 73) q195_69 (by decide) ?_
            exact cutv zk73 (b2i_t ⟨zc48, i_nlt.mp zc52, zc65⟩)
    refine a_ior q195_73 ?_
    refine AW.ti (b2i_orI (p := False) (q := m_el A i c 0) (r := m_el A i c 0) false_orI) ?_
    refine a_istore_n (i := 3) (lv' := [(0, _), (1, _), (2, _), (3, _), (4, _)]) q195_74 rfl rfl rfl ?_
    refine a_iinc (v := nI (0 + 1)) (lv' := [(0, _), (1, _), (2, _), (3, _), (4, _)]) q195_75 rfl rfl (nI_1 (0)) rfl ?_
    refine a_goto (tgt := 38) q195_78 (by decide) ?_
    refine a_iload q195_38 rfl ?_
    refine a_iconst (v := 4) q195_40 (by decide) ?_
    refine a_icmp_ge (tgt := 81) q195_41 (by decide) (fun zc41_1 => absurd zc41_1 (by decide)) (fun zc41_1 => ?_)
    refine a_iload_n (i := 3) q195_44 rfl rfl ?_
    refine AW.cut 73 (b2i (m_el A i c 1)) (fun zk73 => ?_) ?_
    · skip
      refine a_iload q195_45 rfl ?_
      refine a_iload_n (i := 1) q195_47 rfl rfl ?_
      refine a_icmp_eq (tgt := 72) q195_48 (by decide) (fun zc48 => ?_) (fun zc48 => ?_)
      · skip
        refine a_iconst (v := 0) q195_72 (by decide) ?_
        exact cutv zk73 (b2i_f (fun zz => zz.1 zc48))
      · skip
        refine a_iload_n (i := 2) q195_51 rfl rfl ?_
        refine a_if_lt (tgt := 72) q195_52 (by decide) (fun zc52 => ?_) (fun zc52 => ?_)
        · skip
          refine a_iconst (v := 0) q195_72 (by decide) ?_
          exact cutv zk73 (b2i_f (fun zz => absurd zz.2.1 (i_nle.mpr zc52)))
        · skip
          refine a_aload_n (i := 0) q195_55 rfl rfl ?_
          refine a_getfield q195_56 rfl rfl ?_
          refine a_iconst (v := 2) q195_59 (by decide) ?_
          refine a_iload q195_60 rfl ?_
          refine a_iadd q195_62 ?_
          refine a_iald' (j := 2 + 1) q195_63 rfl (nI_add 2 1) (by decide) (by decide) ?_
          refine a_iload_n (i := 2) q195_64 rfl rfl ?_
          refine a_icmp_ne (tgt := 72) q195_65 (by decide) (fun zc65 => ?_) (fun zc65 => ?_)
          · skip
            refine a_iconst (v := 0) q195_72 (by decide) ?_
            exact cutv zk73 (b2i_f (fun zz => zc65 zz.2.2))
          · skip
            refine a_iconst (v := 1) q195_68 (by decide) ?_
            refine a_goto (tgt := 73) q195_69 (by decide) ?_
            exact cutv zk73 (b2i_t ⟨zc48, i_nlt.mp zc52, zc65⟩)
    refine a_ior q195_73 ?_
    refine AW.ti (b2i_orI (p := m_el A i c 0) (q := m_el A i c 1) (r := m_el A i c 0 ∨ m_el A i c 1) Iff.rfl) ?_
    refine a_istore_n (i := 3) (lv' := [(0, _), (1, _), (2, _), (3, _), (4, _)]) q195_74 rfl rfl rfl ?_
    refine a_iinc (v := nI (1 + 1)) (lv' := [(0, _), (1, _), (2, _), (3, _), (4, _)]) q195_75 rfl rfl (nI_1 (1)) rfl ?_
    refine a_goto (tgt := 38) q195_78 (by decide) ?_
    refine a_iload q195_38 rfl ?_
    refine a_iconst (v := 4) q195_40 (by decide) ?_
    refine a_icmp_ge (tgt := 81) q195_41 (by decide) (fun zc41_2 => absurd zc41_2 (by decide)) (fun zc41_2 => ?_)
    refine a_iload_n (i := 3) q195_44 rfl rfl ?_
    refine AW.cut 73 (b2i (m_el A i c 2)) (fun zk73 => ?_) ?_
    · skip
      refine a_iload q195_45 rfl ?_
      refine a_iload_n (i := 1) q195_47 rfl rfl ?_
      refine a_icmp_eq (tgt := 72) q195_48 (by decide) (fun zc48 => ?_) (fun zc48 => ?_)
      · skip
        refine a_iconst (v := 0) q195_72 (by decide) ?_
        exact cutv zk73 (b2i_f (fun zz => zz.1 zc48))
      · skip
        refine a_iload_n (i := 2) q195_51 rfl rfl ?_
        refine a_if_lt (tgt := 72) q195_52 (by decide) (fun zc52 => ?_) (fun zc52 => ?_)
        · skip
          refine a_iconst (v := 0) q195_72 (by decide) ?_
          exact cutv zk73 (b2i_f (fun zz => absurd zz.2.1 (i_nle.mpr zc52)))
        · skip
          refine a_aload_n (i := 0) q195_55 rfl rfl ?_
          refine a_getfield q195_56 rfl rfl ?_
          refine a_iconst (v := 2) q195_59 (by decide) ?_
          refine a_iload q195_60 rfl ?_
          refine a_iadd q195_62 ?_
          refine a_iald' (j := 2 + 2) q195_63 rfl (nI_add 2 2) (by decide) (by decide) ?_
          refine a_iload_n (i := 2) q195_64 rfl rfl ?_
          refine a_icmp_ne (tgt := 72) q195_65 (by decide) (fun zc65 => ?_) (fun zc65 => ?_)
          · skip
            refine a_iconst (v := 0) q195_72 (by decide) ?_
            exact cutv zk73 (b2i_f (fun zz => zc65 zz.2.2))
          · skip
            refine a_iconst (v := 1) q195_68 (by decide) ?_
            refine a_goto (tgt := 73) q195_69 (by decide) ?_
            exact cutv zk73 (b2i_t ⟨zc48, i_nlt.mp zc52, zc65⟩)
    refine a_ior q195_73 ?_
    refine AW.ti (b2i_orI (p := m_el A i c 0 ∨ m_el A i c 1) (q := m_el A i c 2) (r := (m_el A i c 0 ∨ m_el A i c 1) ∨ m_el A i c 2) Iff.rfl) ?_
    refine a_istore_n (i := 3) (lv' := [(0, _), (1, _), (2, _), (3, _), (4, _)]) q195_74 rfl rfl rfl ?_
    refine a_iinc (v := nI (2 + 1)) (lv' := [(0, _), (1, _), (2, _), (3, _), (4, _)]) q195_75 rfl rfl (nI_1 (2)) rfl ?_
    refine a_goto (tgt := 38) q195_78 (by decide) ?_
    refine a_iload q195_38 rfl ?_
    refine a_iconst (v := 4) q195_40 (by decide) ?_
    refine a_icmp_ge (tgt := 81) q195_41 (by decide) (fun zc41_3 => absurd zc41_3 (by decide)) (fun zc41_3 => ?_)
    refine a_iload_n (i := 3) q195_44 rfl rfl ?_
    refine AW.cut 73 (b2i (m_el A i c 3)) (fun zk73 => ?_) ?_
    · skip
      refine a_iload q195_45 rfl ?_
      refine a_iload_n (i := 1) q195_47 rfl rfl ?_
      refine a_icmp_eq (tgt := 72) q195_48 (by decide) (fun zc48 => ?_) (fun zc48 => ?_)
      · skip
        refine a_iconst (v := 0) q195_72 (by decide) ?_
        exact cutv zk73 (b2i_f (fun zz => zz.1 zc48))
      · skip
        refine a_iload_n (i := 2) q195_51 rfl rfl ?_
        refine a_if_lt (tgt := 72) q195_52 (by decide) (fun zc52 => ?_) (fun zc52 => ?_)
        · skip
          refine a_iconst (v := 0) q195_72 (by decide) ?_
          exact cutv zk73 (b2i_f (fun zz => absurd zz.2.1 (i_nle.mpr zc52)))
        · skip
          refine a_aload_n (i := 0) q195_55 rfl rfl ?_
          refine a_getfield q195_56 rfl rfl ?_
          refine a_iconst (v := 2) q195_59 (by decide) ?_
          refine a_iload q195_60 rfl ?_
          refine a_iadd q195_62 ?_
          refine a_iald' (j := 2 + 3) q195_63 rfl (nI_add 2 3) (by decide) (by decide) ?_
          refine a_iload_n (i := 2) q195_64 rfl rfl ?_
          refine a_icmp_ne (tgt := 72) q195_65 (by decide) (fun zc65 => ?_) (fun zc65 => ?_)
          · skip
            refine a_iconst (v := 0) q195_72 (by decide) ?_
            exact cutv zk73 (b2i_f (fun zz => zc65 zz.2.2))
          · skip
            refine a_iconst (v := 1) q195_68 (by decide) ?_
            refine a_goto (tgt := 73) q195_69 (by decide) ?_
            exact cutv zk73 (b2i_t ⟨zc48, i_nlt.mp zc52, zc65⟩)
    refine a_ior q195_73 ?_
    refine AW.ti (b2i_orI (p := (m_el A i c 0 ∨ m_el A i c 1) ∨ m_el A i c 2) (q := m_el A i c 3) (r := ((m_el A i c 0 ∨ m_el A i c 1) ∨ m_el A i c 2) ∨ m_el A i c 3) Iff.rfl) ?_
    refine a_istore_n (i := 3) (lv' := [(0, _), (1, _), (2, _), (3, _), (4, _)]) q195_74 rfl rfl rfl ?_
    refine a_iinc (v := nI (3 + 1)) (lv' := [(0, _), (1, _), (2, _), (3, _), (4, _)]) q195_75 rfl rfl (nI_1 (3)) rfl ?_
    refine a_goto (tgt := 38) q195_78 (by decide) ?_
    refine a_iload q195_38 rfl ?_
    refine a_iconst (v := 4) q195_40 (by decide) ?_
    refine a_icmp_ge (tgt := 81) q195_41 (by decide) (fun zc41_4 => ?_) (fun zc41_4 => absurd (by decide) zc41_4)
    refine a_aload_n (i := 0) q195_81 rfl rfl ?_
    refine a_iload_n (i := 3) q195_82 rfl rfl ?_
    refine a_iconst (v := 2) q195_83 (by decide) ?_
    refine a_cv2 q195_84 rfl rfl ⟨rfl, rfl⟩ rfl ?_
    refine c_X10_isThrown (fun zt84 => ?_) (fun zt84 => ?_)
    · skip
      refine ck_r ?_
      refine a_if_eq (tgt := 92) q195_87 (by decide) (fun zc87 => absurd zc87 (by decide)) (fun zc87 => ?_)
      refine a_iconst (v := 0) q195_90 (by decide) ?_
      refine a_ireturn q195_91 (nr_int rfl _) ?_
      exact lfh (h2 i hi rfl (b2i_not zt25).2 zt84) rfl
    · skip
      refine ck_r ?_
      refine a_if_eq (tgt := 92) q195_87 (by decide) (fun zc87 => ?_) (fun zc87 => absurd (by decide) zc87)
      refine a_aload_n (i := 0) q195_92 rfl rfl ?_
      refine a_getfield q195_93 rfl rfl ?_
      refine a_iconst (v := 2) q195_96 (by decide) ?_
      refine a_iload_n (i := 1) q195_97 rfl rfl ?_
      refine a_iadd q195_98 ?_
      refine a_iald' (j := 2 + i) q195_99 rfl (nI_add 2 i) (by omega) (by decide) ?_
      refine a_istore (i := 4) (lv' := [(0, _), (1, _), (2, _), (3, _), (4, _)]) q195_100 rfl rfl ?_
      refine a_aload_n (i := 0) q195_102 rfl rfl ?_
      refine a_iconst (v := 0) q195_103 (by decide) ?_
      refine a_putfield q195_104 rfl rfl rfl rfl ?_
      refine AW.hp (h' := hp (va_up (va_up I 26 0) 29 0) A L O) rfl ?_
      refine a_aload_n (i := 0) q195_107 rfl rfl ?_
      refine a_getfield q195_108 rfl rfl ?_
      refine a_iconst (v := 2) q195_111 (by decide) ?_
      refine a_iload_n (i := 1) q195_112 rfl rfl ?_
      refine a_iadd q195_113 ?_
      refine a_iload_n (i := 2) q195_114 rfl rfl ?_
      refine a_iast' (j := 2 + i) q195_115 rfl (nI_add 2 i) (by omega) (by decide) (h' := hp (va_up (va_up I 26 0) 29 0) (va_up A 30 (upd (A 30) (2 + i) c)) L O) rfl ?_
      refine a_iload q195_116 rfl ?_
      refine a_ireturn q195_118 (nr_int rfl _) ?_
      exact lfi (lfh (h0 i hi rfl (b2i_not zt25).2 zt84) rfl) rfl

theorem c_X10_brokenRule {X : XS} {I : Nat → Int32} {A : Nat → Nat → Int32} {L : Nat → Nat → Int64} {O : Nat → UInt64} {Q : AO → AH → Prop} {n : Nat} (hn : I 20 = nI n) (hn40 : n ≤ 40) (hg : vch (A 30)) (hq : Q (.inl (some (.int (m_fb (I 27) (kndA A n 6) ((kndA A n 6) 30))))) (hp (va_up I 26 0) (kndA A n 6) L O)) : Call X 196 [.ref 21] (hp I A L O) Q := by
  refine call_of (by decide) rfl rfl ?_
  refine a_aload_n (i := 0) q196_0 rfl rfl ?_
  refine a_iconst (v := 0) q196_1 (by decide) ?_
  refine a_putfield q196_2 rfl rfl rfl rfl ?_
  refine AW.hp (h' := hp (va_up I 26 0) A L O) rfl ?_
  refine a_aload_n (i := 0) q196_5 rfl rfl ?_
  refine a_cv0 q196_6 rfl rfl ⟨rfl, rfl⟩ rfl ?_
  refine c_X10_kinds hn hn40 ?_
  refine ck_v ?_
  refine a_aload_n (i := 0) q196_9 rfl rfl ?_
  refine a_aload_n (i := 0) q196_10 rfl rfl ?_
  refine a_getfield q196_11 rfl rfl ?_
  refine a_cv1 q196_14 rfl rfl ⟨rfl, rfl⟩ rfl ?_
  refine c_X10_broken (o := 30) (Or.inr (Or.inl rfl)) hg ?_
  refine ck_r ?_
  refine a_ireturn q196_17 (nr_int rfl _) ?_
  exact hq

theorem c_X10_softRules {X : XS} {I : Nat → Int32} {A : Nat → Nat → Int32} {L : Nat → Nat → Int64} {O : Nat → UInt64} {Q : AO → AH → Prop} {n : Nat} (hn : I 20 = nI n) (hn40 : n ≤ 40) (hg : vch (A 30)) (hq : Q (.inl (some (.int (m_soft (I 20) (kndA A n 6) ((kndA A n 6) 30))))) (hp (va_up I 26 0) (kndA A n 6) L O)) : Call X 197 [.ref 21] (hp I A L O) Q := by
  refine call_of (by decide) rfl rfl ?_
  refine a_aload_n (i := 0) q197_0 rfl rfl ?_
  refine a_iconst (v := 0) q197_1 (by decide) ?_
  refine a_putfield q197_2 rfl rfl rfl rfl ?_
  refine AW.hp (h' := hp (va_up I 26 0) A L O) rfl ?_
  refine a_aload_n (i := 0) q197_5 rfl rfl ?_
  refine a_cv0 q197_6 rfl rfl ⟨rfl, rfl⟩ rfl ?_
  refine c_X10_kinds hn hn40 ?_
  refine ck_v ?_
  refine a_aload_n (i := 0) q197_9 rfl rfl ?_
  refine a_aload_n (i := 0) q197_10 rfl rfl ?_
  refine a_getfield q197_11 rfl rfl ?_
  refine a_cv1 q197_14 rfl rfl ⟨rfl, rfl⟩ rfl ?_
  refine c_X10_soft (o := 30) (Or.inr (Or.inl rfl)) hg ?_
  refine ck_r ?_
  refine a_ireturn q197_17 (nr_int rfl _) ?_
  exact hq

theorem c_X10_draftCost {X : XS} {I : Nat → Int32} {A : Nat → Nat → Int32} {L : Nat → Nat → Int64} {O : Nat → UInt64} {Q : AO → AH → Prop} {n : Nat} (hn : I 20 = nI n) (hn40 : n ≤ 40) (hg : vch (A 30)) (h1 : ¬ m_fb (I 27) (kndA A n 6) ((kndA A n 6) 30) = 0 → Q (.inl (some (.int 0))) (hp (va_up I 26 1) (kndA A n 6) L O)) (h0 : m_fb (I 27) (kndA A n 6) ((kndA A n 6) 30) = 0 → Q (.inl (some (.int (m_cost n (kndA A n 6) ((kndA A n 6) 30))))) (hp (va_up I 26 0) (kndA A n 6) L O)) : Call X 198 [.ref 21] (hp I A L O) Q := by
  refine call_of (by decide) rfl rfl ?_
  refine a_aload_n (i := 0) q198_0 rfl rfl ?_
  refine a_cv0 q198_1 rfl rfl ⟨rfl, rfl⟩ rfl ?_
  refine c_X10_kinds hn hn40 ?_
  refine ck_v ?_
  refine a_aload_n (i := 0) q198_4 rfl rfl ?_
  refine AW.cut 21 (b2i (¬ m_fb (I 27) (kndA A n 6) ((kndA A n 6) 30) = 0)) (fun zk21 => ?_) ?_
  · skip
    refine a_aload_n (i := 0) q198_5 rfl rfl ?_
    refine a_aload_n (i := 0) q198_6 rfl rfl ?_
    refine a_getfield q198_7 rfl rfl ?_
    refine a_cv1 q198_10 rfl rfl ⟨rfl, rfl⟩ rfl ?_
    refine c_X10_broken (o := 30) (Or.inr (Or.inl rfl)) hg ?_
    refine ck_r ?_
    refine a_if_eq (tgt := 20) q198_13 (by decide) (fun zc13 => ?_) (fun zc13 => ?_)
    · skip
      refine a_iconst (v := 0) q198_20 (by decide) ?_
      exact cutv zk21 (b2i_f (fun zz => zz zc13))
    · skip
      refine a_iconst (v := 1) q198_16 (by decide) ?_
      refine a_goto (tgt := 21) q198_17 (by decide) ?_
      exact cutv zk21 (b2i_t zc13)
  refine a_iconst (v := 1) q198_21 (by decide) ?_
  refine a_cv2 q198_22 rfl rfl ⟨rfl, rfl⟩ rfl ?_
  refine c_X10_isThrown (fun zt22 => ?_) (fun zt22 => ?_)
  · skip
    refine ck_r ?_
    refine a_if_eq (tgt := 32) q198_25 (by decide) (fun zc25 => absurd zc25 (by decide)) (fun zc25 => ?_)
    refine a_iconst (v := 0) q198_28 (by decide) ?_
    refine a_goto (tgt := 40) q198_29 (by decide) ?_
    refine a_ireturn q198_40 (nr_int rfl _) ?_
    exact h1 zt22
  · skip
    refine ck_r ?_
    refine a_if_eq (tgt := 32) q198_25 (by decide) (fun zc25 => ?_) (fun zc25 => absurd (by decide) zc25)
    refine a_aload_n (i := 0) q198_32 rfl rfl ?_
    refine a_aload_n (i := 0) q198_33 rfl rfl ?_
    refine a_getfield q198_34 rfl rfl ?_
    refine a_cv1 q198_37 rfl rfl ⟨rfl, rfl⟩ rfl ?_
    refine c_X10_costOf (o := 30) (Or.inr (Or.inl rfl)) hg hn hn40 ?_
    refine ck_r ?_
    refine a_ireturn q198_40 (nr_int rfl _) ?_
    exact h0 (b2i_not zt22)

theorem c_X10_draftRank {X : XS} {I : Nat → Int32} {A : Nat → Nat → Int32} {L : Nat → Nat → Int64} {O : Nat → UInt64} {Q : AO → AH → Prop} {n : Nat} (hn : I 20 = nI n) (hn40 : n ≤ 40) (hg : vch (A 30)) (h1 : ¬ m_fb ((mkI I n A) 27) (mkA I n A) ((mkA I n A) 30) = 0 → Q (.inl (some (.int 0))) (hp (va_up (mkI I n A) 26 1) (mkA I n A) L O)) (h0 : m_fb ((mkI I n A) 27) (mkA I n A) ((mkA I n A) 30) = 0 → Q (.inl (some (.int ((mkI I n A) 25)))) (hp (va_up (mkI I n A) 26 0) (mkA I n A) L O)) : Call X 199 [.ref 21] (hp I A L O) Q := by
  refine call_of (by decide) rfl rfl ?_
  refine a_aload_n (i := 0) q199_0 rfl rfl ?_
  refine a_cv0 q199_1 rfl rfl ⟨rfl, rfl⟩ rfl ?_
  refine c_X10_makes hn hn40 hg ?_
  refine ck_v ?_
  refine a_aload_n (i := 0) q199_4 rfl rfl ?_
  refine AW.cut 21 (b2i (¬ m_fb ((mkI I n A) 27) (mkA I n A) ((mkA I n A) 30) = 0)) (fun zk21 => ?_) ?_
  · skip
    refine a_aload_n (i := 0) q199_5 rfl rfl ?_
    refine a_aload_n (i := 0) q199_6 rfl rfl ?_
    refine a_getfield q199_7 rfl rfl ?_
    refine a_cv1 q199_10 rfl rfl ⟨rfl, rfl⟩ rfl ?_
    refine c_X10_broken (o := 30) (Or.inr (Or.inl rfl)) (by rw [mkA_30]; exact hg) ?_
    refine ck_r ?_
    refine a_if_eq (tgt := 20) q199_13 (by decide) (fun zc13 => ?_) (fun zc13 => ?_)
    · skip
      refine a_iconst (v := 0) q199_20 (by decide) ?_
      exact cutv zk21 (b2i_f (fun zz => zz zc13))
    · skip
      refine a_iconst (v := 1) q199_16 (by decide) ?_
      refine a_goto (tgt := 21) q199_17 (by decide) ?_
      exact cutv zk21 (b2i_t zc13)
  refine a_iconst (v := 1) q199_21 (by decide) ?_
  refine a_cv2 q199_22 rfl rfl ⟨rfl, rfl⟩ rfl ?_
  refine c_X10_isThrown (fun zt22 => ?_) (fun zt22 => ?_)
  · skip
    refine ck_r ?_
    refine a_if_eq (tgt := 32) q199_25 (by decide) (fun zc25 => absurd zc25 (by decide)) (fun zc25 => ?_)
    refine a_iconst (v := 0) q199_28 (by decide) ?_
    refine a_goto (tgt := 36) q199_29 (by decide) ?_
    refine a_ireturn q199_36 (nr_int rfl _) ?_
    exact h1 zt22
  · skip
    refine ck_r ?_
    refine a_if_eq (tgt := 32) q199_25 (by decide) (fun zc25 => ?_) (fun zc25 => absurd (by decide) zc25)
    refine a_aload_n (i := 0) q199_32 rfl rfl ?_
    refine a_getfield q199_33 rfl rfl ?_
    refine a_ireturn q199_36 (nr_int rfl _) ?_
    exact h0 (b2i_not zt22)
