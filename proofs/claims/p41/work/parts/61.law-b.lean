/-! the law's charts -/
abbrev kc (K : Nat → Int32) : AC := .inr (0, 12, .inl K)
abbrev lc (B : Nat → Int64) : AC := .inr (1, 6, .inr (.inl B))
abbrev cc (C : Nat → Int32) : AC := .inr (0, 6, .inl C)
/-- the law's numbers, read as rows -/
def VB (A : Nat → Nat → Int32) (K : Nat → Int32) (x j : Nat) : Int32 := match x with
  | 22 => A 30 (100 + j)
  | 23 => A 30 (10 + j)
  | 24 => A 30 (20 + j)
  | 25 => K j
  | 26 => K (6 + j)
  | 27 => A 30 (30 + j)
  | 28 => (A 30 (40 + j / 4) >>> (nI (j % 4) &&& 31)) &&& 1
  | _ => 0
def kS (K : Nat → Int32) (s : Nat) : Int32 := if s = 0 then -1 else K (s - 1)
theorem xI_e {s : Nat} (h0 : ¬ s = 0) : xI s = nI (s - 1) := by
  obtain ⟨j, rfl⟩ : ∃ j, s = j + 1 := ⟨s - 1, by omega⟩
  exact xI_s j
theorem kS_m1 {K : Nat → Int32} {s : Nat} {k : Int32} (h : s = 0) (hk : ¬ k = -1) : ¬ kS K s = k := by
  unfold kS; rw [if_pos h]; exact fun z => hk z.symm
theorem kS_s {K : Nat → Int32} {s : Nat} (h : ¬ s = 0) : kS K s = K (s - 1) := by unfold kS; rw [if_neg h]
theorem vb_of {A : Nat → Nat → Int32} {K C : Nat → Int32} {k s : Nat} (hs : s < 7) (hf : C (2 + k) = xI s) : m_of (VB A K) C k = kS K s := by
  unfold m_of kS
  rw [hf]
  by_cases h0 : s = 0
  · rw [if_pos ((xI_neg hs).mpr h0), if_pos h0]
  · rw [if_neg (fun z => h0 ((xI_neg hs).mp z)), if_neg h0, xI_cl hs h0]; rfl
theorem c_L_isOf {X : XS} {I : Nat → Int32} {A : Nat → Nat → Int32} {L : Nat → Nat → Int64} {O : AH} {Q : AO → AH → Prop} {K : Nat → Int32} {s : Nat} {k o : Int32} (hs : s < 7) (hk : ¬ k = -1) (ho : ¬ o = -1) (hq : Q (.inl (some (.int (b2i (kS K s = k ∨ kS K s = o))))) (hp I A L (kc K :: O))) : Call X 138 [.ref 22, .int (xI s), .int k, .int o] (hp I A L (kc K :: O)) Q := by
  refine call_of (by decide) rfl rfl ?_
  refine a_iload_n (i := 1) q138_0 rfl rfl ?_
  refine a_if_lt (tgt := 22) q138_1 (by decide) (fun zc1 => ?_) (fun zc1 => ?_)
  · skip
    refine a_iconst (v := 0) q138_22 (by decide) ?_
    refine a_ireturn q138_23 (nr_bool rfl (by decide)) ?_
    exact lfi hq (b2i_f (fun zz => zz.elim (kS_m1 ((xI_neg hs).mp zc1) hk) (kS_m1 ((xI_neg hs).mp zc1) ho))).symm
  · skip
    refine a_aload_n (i := 0) q138_4 rfl rfl ?_
    refine a_iload_n (i := 1) q138_5 rfl rfl ?_
    have zs : ¬ s = 0 := fun zz => zc1 ((xI_neg hs).mpr zz)
    refine a_iald' q138_6 rfl (j := s - 1) (xI_e zs) (by omega) (by decide) ?_
    refine a_iload_n (i := 2) q138_7 rfl rfl ?_
    refine a_icmp_eq (tgt := 18) q138_8 (by decide) (fun zc8 => ?_) (fun zc8 => ?_)
    · skip
      refine a_iconst (v := 1) q138_18 (by decide) ?_
      refine a_goto (tgt := 23) q138_19 (by decide) ?_
      refine a_ireturn q138_23 (nr_bool rfl (by decide)) ?_
      exact lfi hq (b2i_t (by rw [kS_s zs]; exact Or.inl zc8)).symm
    · skip
      refine a_aload_n (i := 0) q138_11 rfl rfl ?_
      refine a_iload_n (i := 1) q138_12 rfl rfl ?_
      refine a_iald' q138_13 rfl (j := s - 1) (xI_e zs) (by omega) (by decide) ?_
      refine a_iload_n (i := 3) q138_14 rfl rfl ?_
      refine a_icmp_ne (tgt := 22) q138_15 (by decide) (fun zc15 => ?_) (fun zc15 => ?_)
      · skip
        refine a_iconst (v := 0) q138_22 (by decide) ?_
        refine a_ireturn q138_23 (nr_bool rfl (by decide)) ?_
        exact lfi hq (b2i_f (by rw [kS_s zs]; exact fun zz => zz.elim zc8 zc15)).symm
      · skip
        refine a_iconst (v := 1) q138_18 (by decide) ?_
        refine a_goto (tgt := 23) q138_19 (by decide) ?_
        refine a_ireturn q138_23 (nr_bool rfl (by decide)) ?_
        exact lfi hq (b2i_t (by rw [kS_s zs]; exact Or.inr zc15)).symm

theorem pl_st (p s : Nat) : (7 : Int32) * nI p + 1 + xI s = nI (7 * p + s) := by
  rw [show (7 : Int32) = nI 7 from rfl, pk_mul, Int32.add_assoc, Int32.add_comm 1, xI_p1, nI_add]
theorem i2I {i : Nat} {f : Nat → Int32} {j : Nat} {x : Int32} (e : f j = x) (h : i = j) : f i = x := by rw [h]; exact e
theorem c_L_place {X : XS} {I : Nat → Int32} {A : Nat → Nat → Int32} {L : Nat → Nat → Int64} {O : AH} {Q : AO → AH → Prop} {K : Nat → Int32} {B : Nat → Int64} {C : Nat → Int32} {m a s0 s1 s2 s3 : Nat} (hd : dgt m a s0 s1 s2 s3) (hf : digF C m a s0 s1 s2 s3) (hq : Q (.inl (some (.int (nI (idx m a s0 s1 s2 s3))))) (hp I A L (kc K :: lc B :: cc C :: O))) : Call X 143 [.ref 24] (hp I A L (kc K :: lc B :: cc C :: O)) Q := by
  refine call_of (by decide) rfl rfl ?_
  refine a_iconst (v := 3) q143_0 (by decide) ?_
  refine a_aload_n (i := 0) q143_1 rfl rfl ?_
  refine a_iconst (v := 0) q143_2 (by decide) ?_
  refine a_iald' q143_3 rfl (j := 0) rfl (by decide) (by decide) ?_
  refine AW.ti hf.1 ?_
  refine a_imul q143_4 ?_
  refine a_aload_n (i := 0) q143_5 rfl rfl ?_
  refine a_iconst (v := 1) q143_6 (by decide) ?_
  refine a_iald' q143_7 rfl (j := 1) rfl (by decide) (by decide) ?_
  refine AW.ti hf.2.1 ?_
  refine a_iadd q143_8 ?_
  refine AW.ti (show (3 : Int32) * nI m + nI a = nI (3 * m + a) by rw [show (3 : Int32) = nI 3 from rfl, pk_mul, nI_add]) ?_
  refine a_istore_n (i := 1) (lv' := [(0, _), (1, _)]) q143_9 rfl rfl rfl ?_
  refine a_iconst (v := 2) q143_10 (by decide) ?_
  refine a_istore_n (i := 2) (lv' := [(0, _), (1, _), (2, _)]) q143_11 rfl rfl rfl ?_
  refine a_iload_n (i := 2) q143_12 rfl rfl ?_
  refine a_bipush (v := 6) q143_13 (by decide) ?_
  refine a_icmp_ge (tgt := 35) q143_15 (by decide) (fun zc15 => absurd zc15 (by decide)) (fun zc15 => ?_)
  refine a_bipush (v := 7) q143_18 (by decide) ?_
  refine a_iload_n (i := 1) q143_20 rfl rfl ?_
  refine a_imul q143_21 ?_
  refine a_iconst (v := 1) q143_22 (by decide) ?_
  refine a_iadd q143_23 ?_
  refine a_aload_n (i := 0) q143_24 rfl rfl ?_
  refine a_iload_n (i := 2) q143_25 rfl rfl ?_
  refine a_iald' q143_26 rfl (j := 2) rfl (by decide) (by decide) ?_
  refine AW.ti hf.2.2.1 ?_
  refine a_iadd q143_27 ?_
  refine AW.ti (pl_st (3 * m + a) s0) ?_
  refine a_istore_n (i := 1) (lv' := [(0, _), (1, _), (2, _)]) q143_28 rfl rfl rfl ?_
  refine a_iinc (v := nI (2 + 1)) (lv' := [(0, _), (1, _), (2, _)]) q143_29 rfl rfl (nI_1 (2)) rfl ?_
  refine a_goto (tgt := 12) q143_32 (by decide) ?_
  refine a_iload_n (i := 2) q143_12 rfl rfl ?_
  refine a_bipush (v := 6) q143_13 (by decide) ?_
  refine a_icmp_ge (tgt := 35) q143_15 (by decide) (fun zc15_1 => absurd zc15_1 (by decide)) (fun zc15_1 => ?_)
  refine a_bipush (v := 7) q143_18 (by decide) ?_
  refine a_iload_n (i := 1) q143_20 rfl rfl ?_
  refine a_imul q143_21 ?_
  refine a_iconst (v := 1) q143_22 (by decide) ?_
  refine a_iadd q143_23 ?_
  refine a_aload_n (i := 0) q143_24 rfl rfl ?_
  refine a_iload_n (i := 2) q143_25 rfl rfl ?_
  refine a_iald' q143_26 rfl (j := 3) rfl (by decide) (by decide) ?_
  refine AW.ti hf.2.2.2.1 ?_
  refine a_iadd q143_27 ?_
  refine AW.ti (pl_st (7 * (3 * m + a) + s0) s1) ?_
  refine a_istore_n (i := 1) (lv' := [(0, _), (1, _), (2, _)]) q143_28 rfl rfl rfl ?_
  refine a_iinc (v := nI (3 + 1)) (lv' := [(0, _), (1, _), (2, _)]) q143_29 rfl rfl (nI_1 (3)) rfl ?_
  refine a_goto (tgt := 12) q143_32 (by decide) ?_
  refine a_iload_n (i := 2) q143_12 rfl rfl ?_
  refine a_bipush (v := 6) q143_13 (by decide) ?_
  refine a_icmp_ge (tgt := 35) q143_15 (by decide) (fun zc15_2 => absurd zc15_2 (by decide)) (fun zc15_2 => ?_)
  refine a_bipush (v := 7) q143_18 (by decide) ?_
  refine a_iload_n (i := 1) q143_20 rfl rfl ?_
  refine a_imul q143_21 ?_
  refine a_iconst (v := 1) q143_22 (by decide) ?_
  refine a_iadd q143_23 ?_
  refine a_aload_n (i := 0) q143_24 rfl rfl ?_
  refine a_iload_n (i := 2) q143_25 rfl rfl ?_
  refine a_iald' q143_26 rfl (j := 4) rfl (by decide) (by decide) ?_
  refine AW.ti hf.2.2.2.2.1 ?_
  refine a_iadd q143_27 ?_
  refine AW.ti (pl_st (7 * (7 * (3 * m + a) + s0) + s1) s2) ?_
  refine a_istore_n (i := 1) (lv' := [(0, _), (1, _), (2, _)]) q143_28 rfl rfl rfl ?_
  refine a_iinc (v := nI (4 + 1)) (lv' := [(0, _), (1, _), (2, _)]) q143_29 rfl rfl (nI_1 (4)) rfl ?_
  refine a_goto (tgt := 12) q143_32 (by decide) ?_
  refine a_iload_n (i := 2) q143_12 rfl rfl ?_
  refine a_bipush (v := 6) q143_13 (by decide) ?_
  refine a_icmp_ge (tgt := 35) q143_15 (by decide) (fun zc15_3 => absurd zc15_3 (by decide)) (fun zc15_3 => ?_)
  refine a_bipush (v := 7) q143_18 (by decide) ?_
  refine a_iload_n (i := 1) q143_20 rfl rfl ?_
  refine a_imul q143_21 ?_
  refine a_iconst (v := 1) q143_22 (by decide) ?_
  refine a_iadd q143_23 ?_
  refine a_aload_n (i := 0) q143_24 rfl rfl ?_
  refine a_iload_n (i := 2) q143_25 rfl rfl ?_
  refine a_iald' q143_26 rfl (j := 5) rfl (by decide) (by decide) ?_
  refine AW.ti hf.2.2.2.2.2 ?_
  refine a_iadd q143_27 ?_
  refine AW.ti (pl_st (7 * (7 * (7 * (3 * m + a) + s0) + s1) + s2) s3) ?_
  refine a_istore_n (i := 1) (lv' := [(0, _), (1, _), (2, _)]) q143_28 rfl rfl rfl ?_
  refine a_iinc (v := nI (5 + 1)) (lv' := [(0, _), (1, _), (2, _)]) q143_29 rfl rfl (nI_1 (5)) rfl ?_
  refine a_goto (tgt := 12) q143_32 (by decide) ?_
  refine a_iload_n (i := 2) q143_12 rfl rfl ?_
  refine a_bipush (v := 6) q143_13 (by decide) ?_
  refine a_icmp_ge (tgt := 35) q143_15 (by decide) (fun zc15_4 => ?_) (fun zc15_4 => absurd (by decide) zc15_4)
  refine a_iload_n (i := 1) q143_35 rfl rfl ?_
  refine a_ireturn q143_36 (nr_int rfl _) ?_
  exact hq

def softL (A : Nat → Nat → Int32) (K C : Nat → Int32) : Int32 :=
  (((((((((0 : Int32) + bv (C 0 = 0 ∧ C 1 = 0) 1) + bv (m_of (VB A K) C 0 = 3 ∧ m_of (VB A K) C 1 = 3) 2) + bv (m_of (VB A K) C 2 = 4) 4) + bv (C 0 = 2 ∧ C 1 = 0 ∧ 20 < A 30 0) 8) + bv (C 0 = 2 ∧ ¬ C 1 = 0) 16) + bv (2 < m_nch C) 32) + bv (m_of (VB A K) C 2 = 3 ∧ 4 < VB A K 26 (C 4).toNatClampNeg) 64) + bv (C 2 < 0 ∨ C 3 < 0) 128)
theorem bv_t {p : Prop} [Decidable p] {v : Int32} (h : p) : bv p v = v := if_pos h
theorem bv_f {p : Prop} [Decidable p] {v : Int32} (h : ¬ p) : bv p v = 0 := if_neg h
theorem bv_c {p q : Prop} [Decidable p] [Decidable q] {v : Int32} (h : p ↔ q) : bv p v = bv q v := by
  by_cases hp : p
  · rw [bv_t hp, bv_t (h.mp hp)]
  · rw [bv_f hp, bv_f (fun z => hp (h.mpr z))]
theorem c_L_softs {X : XS} {I : Nat → Int32} {A : Nat → Nat → Int32} {L : Nat → Nat → Int64} {O : AH} {Q : AO → AH → Prop} {K : Nat → Int32} {B : Nat → Int64} {C : Nat → Int32} {m a s0 s1 s2 s3 : Nat} (hd : dgt m a s0 s1 s2 s3) (hf : digF C m a s0 s1 s2 s3) (hq : Q (.inl (some (.int (softL A K C)))) (hp I A L (kc K :: lc B :: cc C :: O))) : Call X 141 [.ref 0, .ref 22, .ref 24] (hp I A L (kc K :: lc B :: cc C :: O)) Q := by
  refine call_of (by decide) rfl rfl ?_
  refine a_iconst (v := 0) q141_0 (by decide) ?_
  refine a_istore_n (i := 3) (lv' := [(0, _), (1, _), (2, _), (3, _)]) q141_1 rfl rfl rfl ?_
  refine a_iconst (v := 2) q141_2 (by decide) ?_
  refine a_istore (i := 4) (lv' := [(0, _), (1, _), (2, _), (3, _), (4, _)]) q141_3 rfl rfl ?_
  refine a_iload q141_5 rfl ?_
  refine a_bipush (v := 6) q141_7 (by decide) ?_
  refine a_icmp_ge (tgt := 33) q141_9 (by decide) (fun zc9 => absurd zc9 (by decide)) (fun zc9 => ?_)
  refine a_iload_n (i := 3) q141_12 rfl rfl ?_
  refine AW.cut 25 (b2i (0 ≤ C 2)) (fun zk25 => ?_) ?_
  · skip
    refine a_aload_n (i := 2) q141_13 rfl rfl ?_
    refine a_iload q141_14 rfl ?_
    refine a_iald' q141_16 rfl (j := 2) rfl (by decide) (by decide) ?_
    refine a_if_ge (tgt := 24) q141_17 (by decide) (fun zc17 => ?_) (fun zc17 => ?_)
    · skip
      refine a_iconst (v := 1) q141_24 (by decide) ?_
      exact cutv zk25 (by have zl := lits; unfold b2i; split <;> (simp only [i_lt, i_le, i_eq] at * <;> omega))
    · skip
      refine a_iconst (v := 0) q141_20 (by decide) ?_
      refine a_goto (tgt := 25) q141_21 (by decide) ?_
      exact cutv zk25 (by have zl := lits; unfold b2i; split <;> (simp only [i_lt, i_le, i_eq] at * <;> omega))
  refine a_iadd q141_25 ?_
  refine a_istore_n (i := 3) (lv' := [(0, _), (1, _), (2, _), (3, _), (4, _)]) q141_26 rfl rfl rfl ?_
  refine a_iinc (v := nI (2 + 1)) (lv' := [(0, _), (1, _), (2, _), (3, _), (4, _)]) q141_27 rfl rfl (nI_1 (2)) rfl ?_
  refine a_goto (tgt := 5) q141_30 (by decide) ?_
  refine a_iload q141_5 rfl ?_
  refine a_bipush (v := 6) q141_7 (by decide) ?_
  refine a_icmp_ge (tgt := 33) q141_9 (by decide) (fun zc9_1 => absurd zc9_1 (by decide)) (fun zc9_1 => ?_)
  refine a_iload_n (i := 3) q141_12 rfl rfl ?_
  refine AW.cut 25 (b2i (0 ≤ C 3)) (fun zk25 => ?_) ?_
  · skip
    refine a_aload_n (i := 2) q141_13 rfl rfl ?_
    refine a_iload q141_14 rfl ?_
    refine a_iald' q141_16 rfl (j := 3) rfl (by decide) (by decide) ?_
    refine a_if_ge (tgt := 24) q141_17 (by decide) (fun zc17 => ?_) (fun zc17 => ?_)
    · skip
      refine a_iconst (v := 1) q141_24 (by decide) ?_
      exact cutv zk25 (by have zl := lits; unfold b2i; split <;> (simp only [i_lt, i_le, i_eq] at * <;> omega))
    · skip
      refine a_iconst (v := 0) q141_20 (by decide) ?_
      refine a_goto (tgt := 25) q141_21 (by decide) ?_
      exact cutv zk25 (by have zl := lits; unfold b2i; split <;> (simp only [i_lt, i_le, i_eq] at * <;> omega))
  refine a_iadd q141_25 ?_
  refine a_istore_n (i := 3) (lv' := [(0, _), (1, _), (2, _), (3, _), (4, _)]) q141_26 rfl rfl rfl ?_
  refine a_iinc (v := nI (3 + 1)) (lv' := [(0, _), (1, _), (2, _), (3, _), (4, _)]) q141_27 rfl rfl (nI_1 (3)) rfl ?_
  refine a_goto (tgt := 5) q141_30 (by decide) ?_
  refine a_iload q141_5 rfl ?_
  refine a_bipush (v := 6) q141_7 (by decide) ?_
  refine a_icmp_ge (tgt := 33) q141_9 (by decide) (fun zc9_2 => absurd zc9_2 (by decide)) (fun zc9_2 => ?_)
  refine a_iload_n (i := 3) q141_12 rfl rfl ?_
  refine AW.cut 25 (b2i (0 ≤ C 4)) (fun zk25 => ?_) ?_
  · skip
    refine a_aload_n (i := 2) q141_13 rfl rfl ?_
    refine a_iload q141_14 rfl ?_
    refine a_iald' q141_16 rfl (j := 4) rfl (by decide) (by decide) ?_
    refine a_if_ge (tgt := 24) q141_17 (by decide) (fun zc17 => ?_) (fun zc17 => ?_)
    · skip
      refine a_iconst (v := 1) q141_24 (by decide) ?_
      exact cutv zk25 (by have zl := lits; unfold b2i; split <;> (simp only [i_lt, i_le, i_eq] at * <;> omega))
    · skip
      refine a_iconst (v := 0) q141_20 (by decide) ?_
      refine a_goto (tgt := 25) q141_21 (by decide) ?_
      exact cutv zk25 (by have zl := lits; unfold b2i; split <;> (simp only [i_lt, i_le, i_eq] at * <;> omega))
  refine a_iadd q141_25 ?_
  refine a_istore_n (i := 3) (lv' := [(0, _), (1, _), (2, _), (3, _), (4, _)]) q141_26 rfl rfl rfl ?_
  refine a_iinc (v := nI (4 + 1)) (lv' := [(0, _), (1, _), (2, _), (3, _), (4, _)]) q141_27 rfl rfl (nI_1 (4)) rfl ?_
  refine a_goto (tgt := 5) q141_30 (by decide) ?_
  refine a_iload q141_5 rfl ?_
  refine a_bipush (v := 6) q141_7 (by decide) ?_
  refine a_icmp_ge (tgt := 33) q141_9 (by decide) (fun zc9_3 => absurd zc9_3 (by decide)) (fun zc9_3 => ?_)
  refine a_iload_n (i := 3) q141_12 rfl rfl ?_
  refine AW.cut 25 (b2i (0 ≤ C 5)) (fun zk25 => ?_) ?_
  · skip
    refine a_aload_n (i := 2) q141_13 rfl rfl ?_
    refine a_iload q141_14 rfl ?_
    refine a_iald' q141_16 rfl (j := 5) rfl (by decide) (by decide) ?_
    refine a_if_ge (tgt := 24) q141_17 (by decide) (fun zc17 => ?_) (fun zc17 => ?_)
    · skip
      refine a_iconst (v := 1) q141_24 (by decide) ?_
      exact cutv zk25 (by have zl := lits; unfold b2i; split <;> (simp only [i_lt, i_le, i_eq] at * <;> omega))
    · skip
      refine a_iconst (v := 0) q141_20 (by decide) ?_
      refine a_goto (tgt := 25) q141_21 (by decide) ?_
      exact cutv zk25 (by have zl := lits; unfold b2i; split <;> (simp only [i_lt, i_le, i_eq] at * <;> omega))
  refine a_iadd q141_25 ?_
  refine a_istore_n (i := 3) (lv' := [(0, _), (1, _), (2, _), (3, _), (4, _)]) q141_26 rfl rfl rfl ?_
  refine a_iinc (v := nI (5 + 1)) (lv' := [(0, _), (1, _), (2, _), (3, _), (4, _)]) q141_27 rfl rfl (nI_1 (5)) rfl ?_
  refine a_goto (tgt := 5) q141_30 (by decide) ?_
  refine a_iload q141_5 rfl ?_
  refine a_bipush (v := 6) q141_7 (by decide) ?_
  refine a_icmp_ge (tgt := 33) q141_9 (by decide) (fun zc9_4 => ?_) (fun zc9_4 => absurd (by decide) zc9_4)
  refine AW.cut 45 (b2i (C 0 = 2)) (fun zk45 => ?_) ?_
  · skip
    refine a_aload_n (i := 2) q141_33 rfl rfl ?_
    refine a_iconst (v := 0) q141_34 (by decide) ?_
    refine a_iald' q141_35 rfl (j := 0) rfl (by decide) (by decide) ?_
    refine a_iconst (v := 2) q141_36 (by decide) ?_
    refine a_icmp_ne (tgt := 44) q141_37 (by decide) (fun zc37 => ?_) (fun zc37 => ?_)
    · skip
      refine a_iconst (v := 0) q141_44 (by decide) ?_
      exact cutv zk45 (by unfold b2i; split <;> simp_all)
    · skip
      refine a_iconst (v := 1) q141_40 (by decide) ?_
      refine a_goto (tgt := 45) q141_41 (by decide) ?_
      exact cutv zk45 (by unfold b2i; split <;> simp_all)
  refine a_istore (i := 4) (lv' := [(0, _), (1, _), (2, _), (3, _), (4, _)]) q141_45 rfl rfl ?_
  refine AW.cut 58 (b2i (C 1 = 0)) (fun zk58 => ?_) ?_
  · skip
    refine a_aload_n (i := 2) q141_47 rfl rfl ?_
    refine a_iconst (v := 1) q141_48 (by decide) ?_
    refine a_iald' q141_49 rfl (j := 1) rfl (by decide) (by decide) ?_
    refine a_if_ne (tgt := 57) q141_50 (by decide) (fun zc50 => ?_) (fun zc50 => ?_)
    · skip
      refine a_iconst (v := 0) q141_57 (by decide) ?_
      exact cutv zk58 (by unfold b2i; split <;> simp_all)
    · skip
      refine a_iconst (v := 1) q141_53 (by decide) ?_
      refine a_goto (tgt := 58) q141_54 (by decide) ?_
      exact cutv zk58 (by unfold b2i; split <;> simp_all)
  refine a_istore (i := 5) (lv' := [(0, _), (1, _), (2, _), (3, _), (4, _), (5, _)]) q141_58 rfl rfl ?_
  refine a_iconst (v := 0) q141_60 (by decide) ?_
  refine a_istore (i := 6) (lv' := [(0, _), (1, _), (2, _), (3, _), (4, _), (5, _), (6, _)]) q141_61 rfl rfl ?_
  refine a_iload q141_63 rfl ?_
  refine AW.cut 81 (bv (C 0 = 0 ∧ C 1 = 0) 1) (fun zk81 => ?_) ?_
  · skip
    refine a_aload_n (i := 2) q141_65 rfl rfl ?_
    refine a_iconst (v := 0) q141_66 (by decide) ?_
    refine a_iald' q141_67 rfl (j := 0) rfl (by decide) (by decide) ?_
    refine a_if_ne (tgt := 80) q141_68 (by decide) (fun zc68 => ?_) (fun zc68 => ?_)
    · skip
      refine a_iconst (v := 0) q141_80 (by decide) ?_
      exact cutv zk81 (by (try simp only [b2i_z, b2i_nz, Classical.not_not] at *); unfold bv; split <;> simp_all)
    · skip
      refine a_iload q141_71 rfl ?_
      refine a_if_eq (tgt := 80) q141_73 (by decide) (fun zc73 => ?_) (fun zc73 => ?_)
      · skip
        refine a_iconst (v := 0) q141_80 (by decide) ?_
        exact cutv zk81 (by (try simp only [b2i_z, b2i_nz, Classical.not_not] at *); unfold bv; split <;> simp_all)
      · skip
        refine a_iconst (v := 1) q141_76 (by decide) ?_
        refine a_goto (tgt := 81) q141_77 (by decide) ?_
        exact cutv zk81 (by (try simp only [b2i_z, b2i_nz, Classical.not_not] at *); unfold bv; split <;> simp_all)
  refine a_iadd q141_81 ?_
  refine a_istore (i := 6) (lv' := [(0, _), (1, _), (2, _), (3, _), (4, _), (5, _), (6, _)]) q141_82 rfl rfl ?_
  refine a_iload q141_84 rfl ?_
  refine AW.cut 115 (bv (m_of (VB A K) C 0 = 3 ∧ m_of (VB A K) C 1 = 3) 2) (fun zk115 => ?_) ?_
  · skip
    refine a_aload_n (i := 1) q141_86 rfl rfl ?_
    refine a_aload_n (i := 2) q141_87 rfl rfl ?_
    refine a_iconst (v := 2) q141_88 (by decide) ?_
    refine a_iald' q141_89 rfl (j := 2) rfl (by decide) (by decide) ?_
    refine AW.ti hf.2.2.1 ?_
    refine a_iconst (v := 3) q141_90 (by decide) ?_
    refine a_iconst (v := 3) q141_91 (by decide) ?_
    refine a_cs4 q141_92 rfl ⟨rfl, rfl⟩ rfl ?_
    refine c_L_isOf hd.2.2.1 (by decide) (by decide) ?_
    refine ck_r ?_
    refine a_if_eq (tgt := 114) q141_95 (by decide) (fun zc95 => ?_) (fun zc95 => ?_)
    · skip
      refine a_iconst (v := 0) q141_114 (by decide) ?_
      exact cutv zk115 (by rw [vb_of (k := 0) hd.2.2.1 hf.2.2.1, vb_of (k := 1) hd.2.2.2.1 hf.2.2.2.1]; (try simp only [b2i_z, b2i_nz, Classical.not_not, or_self] at *); unfold bv; split <;> simp_all)
    · skip
      refine a_aload_n (i := 1) q141_98 rfl rfl ?_
      refine a_aload_n (i := 2) q141_99 rfl rfl ?_
      refine a_iconst (v := 3) q141_100 (by decide) ?_
      refine a_iald' q141_101 rfl (j := 3) rfl (by decide) (by decide) ?_
      refine AW.ti hf.2.2.2.1 ?_
      refine a_iconst (v := 3) q141_102 (by decide) ?_
      refine a_iconst (v := 3) q141_103 (by decide) ?_
      refine a_cs4 q141_104 rfl ⟨rfl, rfl⟩ rfl ?_
      refine c_L_isOf hd.2.2.2.1 (by decide) (by decide) ?_
      refine ck_r ?_
      refine a_if_eq (tgt := 114) q141_107 (by decide) (fun zc107 => ?_) (fun zc107 => ?_)
      · skip
        refine a_iconst (v := 0) q141_114 (by decide) ?_
        exact cutv zk115 (by rw [vb_of (k := 0) hd.2.2.1 hf.2.2.1, vb_of (k := 1) hd.2.2.2.1 hf.2.2.2.1]; (try simp only [b2i_z, b2i_nz, Classical.not_not, or_self] at *); unfold bv; split <;> simp_all)
      · skip
        refine a_iconst (v := 2) q141_110 (by decide) ?_
        refine a_goto (tgt := 115) q141_111 (by decide) ?_
        exact cutv zk115 (by rw [vb_of (k := 0) hd.2.2.1 hf.2.2.1, vb_of (k := 1) hd.2.2.2.1 hf.2.2.2.1]; (try simp only [b2i_z, b2i_nz, Classical.not_not, or_self] at *); unfold bv; split <;> simp_all)
  refine a_iadd q141_115 ?_
  refine a_istore (i := 6) (lv' := [(0, _), (1, _), (2, _), (3, _), (4, _), (5, _), (6, _)]) q141_116 rfl rfl ?_
  refine a_iload q141_118 rfl ?_
  refine AW.cut 137 (bv (m_of (VB A K) C 2 = 4) 4) (fun zk137 => ?_) ?_
  · skip
    refine a_aload_n (i := 1) q141_120 rfl rfl ?_
    refine a_aload_n (i := 2) q141_121 rfl rfl ?_
    refine a_iconst (v := 4) q141_122 (by decide) ?_
    refine a_iald' q141_123 rfl (j := 4) rfl (by decide) (by decide) ?_
    refine AW.ti hf.2.2.2.2.1 ?_
    refine a_iconst (v := 4) q141_124 (by decide) ?_
    refine a_iconst (v := 4) q141_125 (by decide) ?_
    refine a_cs4 q141_126 rfl ⟨rfl, rfl⟩ rfl ?_
    refine c_L_isOf hd.2.2.2.2.1 (by decide) (by decide) ?_
    refine ck_r ?_
    refine a_if_eq (tgt := 136) q141_129 (by decide) (fun zc129 => ?_) (fun zc129 => ?_)
    · skip
      refine a_iconst (v := 0) q141_136 (by decide) ?_
      exact cutv zk137 (by rw [vb_of (k := 2) hd.2.2.2.2.1 hf.2.2.2.2.1]; (try simp only [b2i_z, b2i_nz, Classical.not_not, or_self] at *); unfold bv; split <;> simp_all)
    · skip
      refine a_iconst (v := 4) q141_132 (by decide) ?_
      refine a_goto (tgt := 137) q141_133 (by decide) ?_
      exact cutv zk137 (by rw [vb_of (k := 2) hd.2.2.2.2.1 hf.2.2.2.2.1]; (try simp only [b2i_z, b2i_nz, Classical.not_not, or_self] at *); unfold bv; split <;> simp_all)
  refine a_iadd q141_137 ?_
  refine a_istore (i := 6) (lv' := [(0, _), (1, _), (2, _), (3, _), (4, _), (5, _), (6, _)]) q141_138 rfl rfl ?_
  refine a_iload q141_140 rfl ?_
  refine AW.cut 166 (bv (C 0 = 2 ∧ C 1 = 0 ∧ 20 < A 30 0) 8) (fun zk166 => ?_) ?_
  · skip
    refine a_iload q141_142 rfl ?_
    refine a_if_eq (tgt := 165) q141_144 (by decide) (fun zc144 => ?_) (fun zc144 => ?_)
    · skip
      refine a_iconst (v := 0) q141_165 (by decide) ?_
      exact cutv zk166 (by (try simp only [b2i_z, b2i_nz, Classical.not_not, i_nle, i_nlt] at *); unfold bv; split <;> first | (simp_all; done) | (rename_i zq; exact absurd zq.2.2 (i_nlt.mpr (by assumption))) | (rename_i zq; exact absurd ⟨by assumption, by assumption, by assumption⟩ zq))
    · skip
      refine a_iload q141_147 rfl ?_
      refine a_if_eq (tgt := 165) q141_149 (by decide) (fun zc149 => ?_) (fun zc149 => ?_)
      · skip
        refine a_iconst (v := 0) q141_165 (by decide) ?_
        exact cutv zk166 (by (try simp only [b2i_z, b2i_nz, Classical.not_not, i_nle, i_nlt] at *); unfold bv; split <;> first | (simp_all; done) | (rename_i zq; exact absurd zq.2.2 (i_nlt.mpr (by assumption))) | (rename_i zq; exact absurd ⟨by assumption, by assumption, by assumption⟩ zq))
      · skip
        refine a_aload_n (i := 0) q141_152 rfl rfl ?_
        refine a_iconst (v := 0) q141_153 (by decide) ?_
        refine a_iald' q141_154 rfl (j := 0) rfl (by decide) (by decide) ?_
        refine a_bipush (v := 20) q141_155 (by decide) ?_
        refine a_icmp_le (tgt := 165) q141_157 (by decide) (fun zc157 => ?_) (fun zc157 => ?_)
        · skip
          refine a_iconst (v := 0) q141_165 (by decide) ?_
          exact cutv zk166 (by (try simp only [b2i_z, b2i_nz, Classical.not_not, i_nle, i_nlt] at *); unfold bv; split <;> first | (simp_all; done) | (rename_i zq; exact absurd zq.2.2 (i_nlt.mpr (by assumption))) | (rename_i zq; exact absurd ⟨by assumption, by assumption, by assumption⟩ zq))
        · skip
          refine a_bipush (v := 8) q141_160 (by decide) ?_
          refine a_goto (tgt := 166) q141_162 (by decide) ?_
          exact cutv zk166 (by (try simp only [b2i_z, b2i_nz, Classical.not_not, i_nle, i_nlt] at *); unfold bv; split <;> first | (simp_all; done) | (rename_i zq; exact absurd zq.2.2 (i_nlt.mpr (by assumption))) | (rename_i zq; exact absurd ⟨by assumption, by assumption, by assumption⟩ zq))
  refine a_iadd q141_166 ?_
  refine a_istore (i := 6) (lv' := [(0, _), (1, _), (2, _), (3, _), (4, _), (5, _), (6, _)]) q141_167 rfl rfl ?_
  refine a_iload q141_169 rfl ?_
  refine AW.cut 187 (bv (C 0 = 2 ∧ ¬ C 1 = 0) 16) (fun zk187 => ?_) ?_
  · skip
    refine a_iload q141_171 rfl ?_
    refine a_if_eq (tgt := 186) q141_173 (by decide) (fun zc173 => ?_) (fun zc173 => ?_)
    · skip
      refine a_iconst (v := 0) q141_186 (by decide) ?_
      exact cutv zk187 (by (try simp only [b2i_z, b2i_nz, Classical.not_not] at *); unfold bv; split <;> simp_all)
    · skip
      refine a_iload q141_176 rfl ?_
      refine a_if_ne (tgt := 186) q141_178 (by decide) (fun zc178 => ?_) (fun zc178 => ?_)
      · skip
        refine a_iconst (v := 0) q141_186 (by decide) ?_
        exact cutv zk187 (by (try simp only [b2i_z, b2i_nz, Classical.not_not] at *); unfold bv; split <;> simp_all)
      · skip
        refine a_bipush (v := 16) q141_181 (by decide) ?_
        refine a_goto (tgt := 187) q141_183 (by decide) ?_
        exact cutv zk187 (by (try simp only [b2i_z, b2i_nz, Classical.not_not] at *); unfold bv; split <;> simp_all)
  refine a_iadd q141_187 ?_
  refine a_istore (i := 6) (lv' := [(0, _), (1, _), (2, _), (3, _), (4, _), (5, _), (6, _)]) q141_188 rfl rfl ?_
  refine a_iload q141_190 rfl ?_
  refine AW.cut 203 (bv (2 < m_nch C) 32) (fun zk203 => ?_) ?_
  · skip
    refine a_iload_n (i := 3) q141_192 rfl rfl ?_
    refine a_iconst (v := 2) q141_193 (by decide) ?_
    refine a_icmp_le (tgt := 202) q141_194 (by decide) (fun zc194 => ?_) (fun zc194 => ?_)
    · skip
      refine a_iconst (v := 0) q141_202 (by decide) ?_
      exact cutv zk203 (by unfold bv; split <;> first | (exact absurd (by assumption) (i_nlt.mpr zc194)) | (exact absurd (i_nle.mp zc194) (by assumption)) | rfl)
    · skip
      refine a_bipush (v := 32) q141_197 (by decide) ?_
      refine a_goto (tgt := 203) q141_199 (by decide) ?_
      exact cutv zk203 (by unfold bv; split <;> first | (exact absurd (by assumption) (i_nlt.mpr zc194)) | (exact absurd (i_nle.mp zc194) (by assumption)) | rfl)
  refine a_iadd q141_203 ?_
  refine a_istore (i := 6) (lv' := [(0, _), (1, _), (2, _), (3, _), (4, _), (5, _), (6, _)]) q141_204 rfl rfl ?_
  refine a_iload q141_206 rfl ?_
  refine AW.cut 238 (bv (m_of (VB A K) C 2 = 3 ∧ 4 < VB A K 26 (C 4).toNatClampNeg) 64) (fun zk238 => ?_) ?_
  · skip
    refine a_aload_n (i := 1) q141_208 rfl rfl ?_
    refine a_aload_n (i := 2) q141_209 rfl rfl ?_
    refine a_iconst (v := 4) q141_210 (by decide) ?_
    refine a_iald' q141_211 rfl (j := 4) rfl (by decide) (by decide) ?_
    refine AW.ti hf.2.2.2.2.1 ?_
    refine a_iconst (v := 3) q141_212 (by decide) ?_
    refine a_iconst (v := 3) q141_213 (by decide) ?_
    refine a_cs4 q141_214 rfl ⟨rfl, rfl⟩ rfl ?_
    refine c_L_isOf hd.2.2.2.2.1 (by decide) (by decide) ?_
    refine ck_r ?_
    refine a_if_eq (tgt := 237) q141_217 (by decide) (fun zc217 => ?_) (fun zc217 => ?_)
    · skip
      refine a_iconst (v := 0) q141_237 (by decide) ?_
      exact cutv zk238 (bv_f (by rw [vb_of (k := 2) hd.2.2.2.2.1 hf.2.2.2.2.1]; exact fun zz => b2i_z.mp zc217 (Or.inl zz.1)))
    · skip
      refine a_aload_n (i := 1) q141_220 rfl rfl ?_
      refine a_bipush (v := 6) q141_221 (by decide) ?_
      refine a_aload_n (i := 2) q141_223 rfl rfl ?_
      refine a_iconst (v := 4) q141_224 (by decide) ?_
      refine a_iald' q141_225 rfl (j := 4) rfl (by decide) (by decide) ?_
      refine AW.ti hf.2.2.2.2.1 ?_
      refine a_iadd q141_226 ?_
      have zs2 : ¬ s2 = 0 := fun zz => by
        have zk := b2i_nz.mp zc217
        rw [or_self] at zk
        exact kS_m1 zz (by decide) zk
      refine a_iald' q141_227 rfl (j := 6 + (s2 - 1)) (by rw [xI_e zs2]; exact nI_add 6 _) (by have := hd.2.2.2.2.1; omega) (by decide) ?_
      refine a_iconst (v := 4) q141_228 (by decide) ?_
      refine a_icmp_le (tgt := 237) q141_229 (by decide) (fun zc229 => ?_) (fun zc229 => ?_)
      · skip
        refine a_iconst (v := 0) q141_237 (by decide) ?_
        exact cutv zk238 (bv_f (by rw [hf.2.2.2.2.1, xI_cl hd.2.2.2.2.1 zs2]; exact fun zz => i_nlt.mpr zc229 zz.2))
      · skip
        refine a_bipush (v := 64) q141_232 (by decide) ?_
        refine a_goto (tgt := 238) q141_234 (by decide) ?_
        exact cutv zk238 (bv_t (by rw [vb_of (k := 2) hd.2.2.2.2.1 hf.2.2.2.2.1, hf.2.2.2.2.1, xI_cl hd.2.2.2.2.1 zs2]; have zk := b2i_nz.mp zc217; rw [or_self] at zk; exact ⟨zk, i_nle.mp zc229⟩))
  refine a_iadd q141_238 ?_
  refine a_istore (i := 6) (lv' := [(0, _), (1, _), (2, _), (3, _), (4, _), (5, _), (6, _)]) q141_239 rfl rfl ?_
  refine a_iload q141_241 rfl ?_
  refine AW.cut 262 (bv (C 2 < 0 ∨ C 3 < 0) 128) (fun zk262 => ?_) ?_
  · skip
    refine a_aload_n (i := 2) q141_243 rfl rfl ?_
    refine a_iconst (v := 2) q141_244 (by decide) ?_
    refine a_iald' q141_245 rfl (j := 2) rfl (by decide) (by decide) ?_
    refine a_aload_n (i := 2) q141_246 rfl rfl ?_
    refine a_iconst (v := 3) q141_247 (by decide) ?_
    refine a_iald' q141_248 rfl (j := 3) rfl (by decide) (by decide) ?_
    refine a_mmin q141_249 rfl ?_
    refine a_if_ge (tgt := 261) q141_252 (by decide) (fun zc252 => ?_) (fun zc252 => ?_)
    · skip
      refine a_iconst (v := 0) q141_261 (by decide) ?_
      exact cutv zk262 (bv_f (fun zz => by have zl := lits; split at zc252 <;> (simp only [i_lt, i_le] at * <;> omega)))
    · skip
      refine a_sipush (v := 128) q141_255 (by decide) ?_
      refine a_goto (tgt := 262) q141_258 (by decide) ?_
      exact cutv zk262 (bv_t (by have zl := lits; split at zc252 <;> (simp only [i_lt, i_le] at * <;> omega)))
  refine a_iadd q141_262 ?_
  refine a_ireturn q141_263 (nr_int rfl _) ?_
  exact hq
