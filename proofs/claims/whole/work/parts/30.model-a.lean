/-! soundness; the model's leaf methods and table -/
theorem b2i_andI {p q r : Prop} [Decidable p] [Decidable q] [Decidable r] (h : r ↔ p ∧ q) : b2i p &&& b2i q = b2i r := by
  by_cases zp : p
  · by_cases zq : q
    · rw [b2i_t zp, b2i_t zq, b2i_t (h.mpr ⟨zp, zq⟩)]; rfl
    · rw [b2i_t zp, b2i_f zq, b2i_f (fun zz => zq (h.mp zz).2)]; rfl
  · by_cases zq : q
    · rw [b2i_f zp, b2i_t zq, b2i_f (fun zz => zp (h.mp zz).1)]; rfl
    · rw [b2i_f zp, b2i_f zq, b2i_f (fun zz => zp (h.mp zz).1)]; rfl
theorem b2i_orI {p q r : Prop} [Decidable p] [Decidable q] [Decidable r] (h : r ↔ p ∨ q) : b2i p ||| b2i q = b2i r := by
  by_cases zp : p
  · by_cases zq : q
    · rw [b2i_t zp, b2i_t zq, b2i_t (h.mpr (Or.inl zp))]; rfl
    · rw [b2i_t zp, b2i_f zq, b2i_t (h.mpr (Or.inl zp))]; rfl
  · by_cases zq : q
    · rw [b2i_f zp, b2i_t zq, b2i_t (h.mpr (Or.inr zq))]; rfl
    · rw [b2i_f zp, b2i_f zq, b2i_f (fun zz => (h.mp zz).elim zp zq)]; rfl
theorem nI_6 (r : Nat) : (6 : Int32) * nI r = nI (6 * r) := (Int32.ofNat_mul 6 r).symm
theorem nI_ix6 (r c : Nat) : (6 : Int32) * nI r + nI c = nI (6 * r + c) := by rw [nI_6, nI_add]
def mv (A : Nat → Nat → Int32) (c r : Nat) : Int32 := A 22 (6 * r + c)
abbrev inRow (n : Nat) (r : Int32) : Prop := 0 ≤ r ∧ r < nI n
theorem le_m1 {r : Int32} {n : Nat} (h : n ≤ 40) : r ≤ nI n - 1 ↔ r < nI n := by
  cases n with
  | zero =>
    rw [i_le, i_lt, show (nI 0 - 1).toInt = -1 from by decide, show (nI 0).toInt = 0 from by decide]; omega
  | succ m =>
    rw [nI_pred, i_le, i_lt, nI_toInt (by omega), nI_toInt (by omega)]; omega
theorem inRow_of {n : Nat} {r : Int32} (h40 : n ≤ 40) (h : inRow n r) : ∃ j : Nat, j < n ∧ r = nI j := by
  obtain ⟨j, hj, e⟩ := nI_of (i_nlt.mpr h.1)
  refine ⟨j, ?_, e⟩
  have h2 := h.2
  rw [e] at h2
  exact (nI_ltI hj (by omega)).mp h2
theorem b2i_not {p : Prop} [Decidable p] (h : ¬ ¬ p) : p := Classical.not_not.mp h

theorem c_X9_isSound {X : XS} {I : Nat → Int32} {A : Nat → Nat → Int32} {L : Nat → Nat → Int64} {O : Nat → UInt64} {Q : AO → AH → Prop} {k : Nat} (hk : I 7 = nI k) (hk5 : k ≤ 5) (ha : ∀ z, z < (rkB I A L).1 → okC I A (p_chart ((rkB I A L).2 z))) (ho : ∀ z, z + 1 < (rkB I A L).1 → ¬ (p_of (f_cost I A L (p_chart ((rkB I A L).2 (z + 1)))) (p_chart ((rkB I A L).2 (z + 1)))) < (p_of (f_cost I A L (p_chart ((rkB I A L).2 z))) (p_chart ((rkB I A L).2 z)))) (hf : (¬ isRk ((va_up (va_up (va_up (va_up (va_up I 6 0) 7 (nI (rkB I A L).1)) 10 (nI (tAll (va_up (va_up I 6 0) 7 (nI (rkB I A L).1)) A (va_up L 14 (rkB I A L).2) 0).1.1)) 8 (tAll (va_up (va_up I 6 0) 7 (nI (rkB I A L).1)) A (va_up L 14 (rkB I A L).2) 0).2.1) 9 (tAll (va_up (va_up I 6 0) 7 (nI (rkB I A L).1)) A (va_up L 14 (rkB I A L).2) 0).2.2) 7) 0 ∧ ¬ isRk ((va_up (va_up (va_up (va_up (va_up I 6 0) 7 (nI (rkB I A L).1)) 10 (nI (tAll (va_up (va_up I 6 0) 7 (nI (rkB I A L).1)) A (va_up L 14 (rkB I A L).2) 0).1.1)) 8 (tAll (va_up (va_up I 6 0) 7 (nI (rkB I A L).1)) A (va_up L 14 (rkB I A L).2) 0).2.1) 9 (tAll (va_up (va_up I 6 0) 7 (nI (rkB I A L).1)) A (va_up L 14 (rkB I A L).2) 0).2.2) 10) 0) ∨ (isRk ((va_up (va_up (va_up (va_up (va_up I 6 0) 7 (nI (rkB I A L).1)) 10 (nI (tAll (va_up (va_up I 6 0) 7 (nI (rkB I A L).1)) A (va_up L 14 (rkB I A L).2) 0).1.1)) 8 (tAll (va_up (va_up I 6 0) 7 (nI (rkB I A L).1)) A (va_up L 14 (rkB I A L).2) 0).2.1) 9 (tAll (va_up (va_up I 6 0) 7 (nI (rkB I A L).1)) A (va_up L 14 (rkB I A L).2) 0).2.2) 7) 0 ∧ isRk ((va_up (va_up (va_up (va_up (va_up I 6 0) 7 (nI (rkB I A L).1)) 10 (nI (tAll (va_up (va_up I 6 0) 7 (nI (rkB I A L).1)) A (va_up L 14 (rkB I A L).2) 0).1.1)) 8 (tAll (va_up (va_up I 6 0) 7 (nI (rkB I A L).1)) A (va_up L 14 (rkB I A L).2) 0).2.1) 9 (tAll (va_up (va_up I 6 0) 7 (nI (rkB I A L).1)) A (va_up L 14 (rkB I A L).2) 0).2.2) 10) 0 ∧ f_cost (va_up (va_up (va_up (va_up (va_up I 6 0) 7 (nI (rkB I A L).1)) 10 (nI (tAll (va_up (va_up I 6 0) 7 (nI (rkB I A L).1)) A (va_up L 14 (rkB I A L).2) 0).1.1)) 8 (tAll (va_up (va_up I 6 0) 7 (nI (rkB I A L).1)) A (va_up L 14 (rkB I A L).2) 0).2.1) 9 (tAll (va_up (va_up I 6 0) 7 (nI (rkB I A L).1)) A (va_up L 14 (rkB I A L).2) 0).2.2) A (va_up (va_up L 14 (rkB I A L).2) 17 (tAll (va_up (va_up I 6 0) 7 (nI (rkB I A L).1)) A (va_up L 14 (rkB I A L).2) 0).1.2) (p_chart (f_place ((va_up (va_up (va_up (va_up (va_up I 6 0) 7 (nI (rkB I A L).1)) 10 (nI (tAll (va_up (va_up I 6 0) 7 (nI (rkB I A L).1)) A (va_up L 14 (rkB I A L).2) 0).1.1)) 8 (tAll (va_up (va_up I 6 0) 7 (nI (rkB I A L).1)) A (va_up L 14 (rkB I A L).2) 0).2.1) 9 (tAll (va_up (va_up I 6 0) 7 (nI (rkB I A L).1)) A (va_up L 14 (rkB I A L).2) 0).2.2) 7) ((va_up (va_up L 14 (rkB I A L).2) 17 (tAll (va_up (va_up I 6 0) 7 (nI (rkB I A L).1)) A (va_up L 14 (rkB I A L).2) 0).1.2) 14) 0)) = p_cost (f_place ((va_up (va_up (va_up (va_up (va_up I 6 0) 7 (nI (rkB I A L).1)) 10 (nI (tAll (va_up (va_up I 6 0) 7 (nI (rkB I A L).1)) A (va_up L 14 (rkB I A L).2) 0).1.1)) 8 (tAll (va_up (va_up I 6 0) 7 (nI (rkB I A L).1)) A (va_up L 14 (rkB I A L).2) 0).2.1) 9 (tAll (va_up (va_up I 6 0) 7 (nI (rkB I A L).1)) A (va_up L 14 (rkB I A L).2) 0).2.2) 10) ((va_up (va_up L 14 (rkB I A L).2) 17 (tAll (va_up (va_up I 6 0) 7 (nI (rkB I A L).1)) A (va_up L 14 (rkB I A L).2) 0).1.2) 17) 0))) (hq : Q (.inl (some (.int 1))) (hpT (va_up (va_up I 6 0) 7 (nI (rkB I A L).1)) A (va_up L 14 (rkB I A L).2) O (tAll (va_up (va_up I 6 0) 7 (nI (rkB I A L).1)) A (va_up L 14 (rkB I A L).2) 0))) : Call X 119 [.ref 0] (hp I A L O) Q := by
  refine call_of (by decide) rfl rfl ?_
  refine a_aload_n (i := 0) q119_0 rfl rfl ?_
  refine a_getfield q119_1 rfl rfl ?_
  refine a_cv0 q119_4 rfl rfl ⟨rfl, rfl⟩ rfl ?_
  refine c_X6_ranking' hk hk5 ?_
  refine ck_r ?_
  refine a_astore_n (i := 1) (lv' := [(0, _), (1, _)]) q119_7 rfl rfl rfl ?_
  refine a_aload_n (i := 0) q119_8 rfl rfl ?_
  refine a_getfield q119_9 rfl rfl ?_
  refine a_cv0 q119_12 rfl rfl ⟨rfl, rfl⟩ rfl ?_
  refine c_X8_run ?_
  refine ck_v ?_
  refine a_aload_n (i := 0) q119_15 rfl rfl ?_
  refine a_aload_n (i := 1) q119_16 rfl rfl ?_
  refine a_cv1 q119_17 rfl rfl ⟨rfl, rfl⟩ rfl ?_
  refine c_X9_isRankingAllowed (k := (rkB I A L).1) rfl (rkB_le hk hk5) ha ?_
  refine ck_r ?_
  refine a_if_eq (tgt := 50) q119_20 (by decide) (fun zc20 => absurd zc20 (by decide)) (fun zc20 => ?_)
  refine a_aload_n (i := 0) q119_23 rfl rfl ?_
  refine a_aload_n (i := 1) q119_24 rfl rfl ?_
  refine a_cv1 q119_25 rfl rfl ⟨rfl, rfl⟩ rfl ?_
  refine c_X9_isRankingInOrder (k := (rkB I A L).1) rfl (rkB_le hk hk5) ho ?_
  refine ck_r ?_
  refine a_if_eq (tgt := 50) q119_28 (by decide) (fun zc28 => absurd zc28 (by decide)) (fun zc28 => ?_)
  refine a_aload_n (i := 0) q119_31 rfl rfl ?_
  refine a_aload_n (i := 1) q119_32 rfl rfl ?_
  refine a_aload_n (i := 0) q119_33 rfl rfl ?_
  refine a_getfield q119_34 rfl rfl ?_
  refine a_cv0 q119_37 rfl rfl ⟨rfl, rfl⟩ rfl ?_
  refine c_X8_ranking ?_
  refine ck_r ?_
  refine a_cv2 q119_40 rfl rfl ⟨rfl, rfl⟩ rfl ?_
  refine c_X9_isFirstConfirmed hf ?_
  refine ck_r ?_
  refine a_if_eq (tgt := 50) q119_43 (by decide) (fun zc43 => absurd zc43 (by decide)) (fun zc43 => ?_)
  refine a_iconst (v := 1) q119_46 (by decide) ?_
  refine a_goto (tgt := 51) q119_47 (by decide) ?_
  refine a_ireturn q119_51 (nr_bool rfl (by decide)) ?_
  exact lfh hq rfl

theorem c_X10_thrown {X : XS} {I : Nat → Int32} {A : Nat → Nat → Int32} {L : Nat → Nat → Int64} {O : Nat → UInt64} {Q : AO → AH → Prop}  (hq : Q (.inl (some (.int (I 26)))) (hp I A L O)) : Call X 135 [.ref 21] (hp I A L O) Q := by
  refine call_of (by decide) rfl rfl ?_
  refine a_aload_n (i := 0) q135_0 rfl rfl ?_
  refine a_getfield q135_1 rfl rfl ?_
  refine a_ireturn q135_4 (nr_int rfl _) ?_
  exact hq

theorem c_X10_isIn {X : XS} {h : AH} {Q : AO → AH → Prop} {v a b : Int32} (hq : Q (.inl (some (.int (b2i (a ≤ v ∧ v ≤ b))))) h) : Call X 136 [.int v, .int a, .int b] h Q := by
  refine call_of (by decide) rfl rfl ?_
  refine a_iload_n (i := 0) q136_0 rfl rfl ?_
  refine a_iload_n (i := 1) q136_1 rfl rfl ?_
  refine a_icmp_lt (tgt := 14) q136_2 (by decide) (fun zc2 => ?_) (fun zc2 => ?_)
  · skip
    refine a_iconst (v := 0) q136_14 (by decide) ?_
    refine a_ireturn q136_15 (nr_bool rfl (by decide)) ?_
    exact lfi hq (by have zl := lits; unfold b2i; split <;> ((try simp only [b2i_z, Classical.not_not] at *) <;> ((try simp only [isCol, isChan, isMk, isVal, i_lt, i_le, i_eq] at *) <;> omega)))
  · skip
    refine a_iload_n (i := 0) q136_5 rfl rfl ?_
    refine a_iload_n (i := 2) q136_6 rfl rfl ?_
    refine a_icmp_gt (tgt := 14) q136_7 (by decide) (fun zc7 => ?_) (fun zc7 => ?_)
    · skip
      refine a_iconst (v := 0) q136_14 (by decide) ?_
      refine a_ireturn q136_15 (nr_bool rfl (by decide)) ?_
      exact lfi hq (by have zl := lits; unfold b2i; split <;> ((try simp only [b2i_z, Classical.not_not] at *) <;> ((try simp only [isCol, isChan, isMk, isVal, i_lt, i_le, i_eq] at *) <;> omega)))
    · skip
      refine a_iconst (v := 1) q136_10 (by decide) ?_
      refine a_goto (tgt := 15) q136_11 (by decide) ?_
      refine a_ireturn q136_15 (nr_bool rfl (by decide)) ?_
      exact lfi hq (by have zl := lits; unfold b2i; split <;> ((try simp only [b2i_z, Classical.not_not] at *) <;> ((try simp only [isCol, isChan, isMk, isVal, i_lt, i_le, i_eq] at *) <;> omega)))

theorem c_X10_isThrown {X : XS} {I : Nat → Int32} {A : Nat → Nat → Int32} {L : Nat → Nat → Int64} {O : Nat → UInt64} {Q : AO → AH → Prop} {p : Prop} [Decidable p] {a : Int32} (h1 : p → Q (.inl (some (.int 1))) (hp (va_up I 26 a) A L O)) (h0 : ¬ p → Q (.inl (some (.int 0))) (hp (va_up I 26 0) A L O)) : Call X 137 [.ref 21, .int (b2i p), .int a] (hp I A L O) Q := by
  refine call_of (by decide) rfl rfl ?_
  refine a_aload_n (i := 0) q137_0 rfl rfl ?_
  refine a_iload_n (i := 1) q137_1 rfl rfl ?_
  refine a_if_eq (tgt := 9) q137_2 (by decide) (fun zc2 => ?_) (fun zc2 => ?_)
  · skip
    refine a_iconst (v := 0) q137_9 (by decide) ?_
    refine a_putfield q137_10 rfl rfl rfl rfl ?_
    refine a_iload_n (i := 1) q137_13 rfl rfl ?_
    refine a_ireturn q137_14 (nr_bool rfl b2i_01) ?_
    exact lfh (lfi (h0 (b2i_z.mp zc2)) zc2) rfl
  · skip
    refine a_iload_n (i := 2) q137_5 rfl rfl ?_
    refine a_goto (tgt := 10) q137_6 (by decide) ?_
    refine a_putfield q137_10 rfl rfl rfl rfl ?_
    refine a_iload_n (i := 1) q137_13 rfl rfl ?_
    refine a_ireturn q137_14 (nr_bool rfl b2i_01) ?_
    exact lfh (lfi (h1 (b2i_nz.mp zc2)) (b2i_t (b2i_nz.mp zc2))) rfl

theorem c_X10_isNoColumn {X : XS} {I : Nat → Int32} {A : Nat → Nat → Int32} {L : Nat → Nat → Int64} {O : Nat → UInt64} {Q : AO → AH → Prop} {c : Int32} (h1 : ¬ isCol c → Q (.inl (some (.int 1))) (hp (va_up I 26 1) A L O)) (h0 : isCol c → Q (.inl (some (.int 0))) (hp (va_up I 26 0) A L O)) : Call X 138 [.ref 21, .int c] (hp I A L O) Q := by
  refine call_of (by decide) rfl rfl ?_
  refine a_aload_n (i := 0) q138_0 rfl rfl ?_
  refine AW.cut 15 (b2i (¬ isCol c)) (fun zk15 => ?_) ?_
  · skip
    refine a_iload_n (i := 1) q138_1 rfl rfl ?_
    refine a_iconst (v := 0) q138_2 (by decide) ?_
    refine a_iconst (v := 5) q138_3 (by decide) ?_
    refine a_cs3 q138_4 rfl ⟨rfl, rfl⟩ rfl ?_
    refine c_X10_isIn ?_
    refine ck_r ?_
    refine a_if_ne (tgt := 14) q138_7 (by decide) (fun zc7 => ?_) (fun zc7 => ?_)
    · skip
      refine a_iconst (v := 0) q138_14 (by decide) ?_
      exact cutv zk15 (by have zl := lits; unfold b2i; split <;> ((try simp only [b2i_z, Classical.not_not] at *) <;> ((try simp only [isCol, isChan, isMk, isVal, i_lt, i_le, i_eq] at *) <;> omega)))
    · skip
      refine a_iconst (v := 1) q138_10 (by decide) ?_
      refine a_goto (tgt := 15) q138_11 (by decide) ?_
      exact cutv zk15 (by have zl := lits; unfold b2i; split <;> ((try simp only [b2i_z, Classical.not_not] at *) <;> ((try simp only [isCol, isChan, isMk, isVal, i_lt, i_le, i_eq] at *) <;> omega)))
  refine a_iconst (v := 1) q138_15 (by decide) ?_
  refine a_cv2 q138_16 rfl rfl ⟨rfl, rfl⟩ rfl ?_
  refine c_X10_isThrown (fun zt16 => ?_) (fun zt16 => ?_)
  · skip
    refine ck_r ?_
    refine a_ireturn q138_19 (nr_bool rfl (by decide)) ?_
    exact h1 zt16
  · skip
    refine ck_r ?_
    refine a_ireturn q138_19 (nr_bool rfl (by decide)) ?_
    exact h0 (b2i_not zt16)

theorem c_X10_isNoChannel {X : XS} {I : Nat → Int32} {A : Nat → Nat → Int32} {L : Nat → Nat → Int64} {O : Nat → UInt64} {Q : AO → AH → Prop} {c a : Int32} (h1 : ¬ isChan c → Q (.inl (some (.int 1))) (hp (va_up I 26 a) A L O)) (h0 : isChan c → Q (.inl (some (.int 0))) (hp (va_up I 26 0) A L O)) : Call X 182 [.ref 21, .int c, .int a] (hp I A L O) Q := by
  refine call_of (by decide) rfl rfl ?_
  refine a_aload_n (i := 0) q182_0 rfl rfl ?_
  refine AW.cut 15 (b2i (¬ isChan c)) (fun zk15 => ?_) ?_
  · skip
    refine a_iload_n (i := 1) q182_1 rfl rfl ?_
    refine a_iconst (v := 0) q182_2 (by decide) ?_
    refine a_iconst (v := 3) q182_3 (by decide) ?_
    refine a_cs3 q182_4 rfl ⟨rfl, rfl⟩ rfl ?_
    refine c_X10_isIn ?_
    refine ck_r ?_
    refine a_if_ne (tgt := 14) q182_7 (by decide) (fun zc7 => ?_) (fun zc7 => ?_)
    · skip
      refine a_iconst (v := 0) q182_14 (by decide) ?_
      exact cutv zk15 (by have zl := lits; unfold b2i; split <;> ((try simp only [b2i_z, Classical.not_not] at *) <;> ((try simp only [isCol, isChan, isMk, isVal, i_lt, i_le, i_eq] at *) <;> omega)))
    · skip
      refine a_iconst (v := 1) q182_10 (by decide) ?_
      refine a_goto (tgt := 15) q182_11 (by decide) ?_
      exact cutv zk15 (by have zl := lits; unfold b2i; split <;> ((try simp only [b2i_z, Classical.not_not] at *) <;> ((try simp only [isCol, isChan, isMk, isVal, i_lt, i_le, i_eq] at *) <;> omega)))
  refine a_iload_n (i := 2) q182_15 rfl rfl ?_
  refine a_cv2 q182_16 rfl rfl ⟨rfl, rfl⟩ rfl ?_
  refine c_X10_isThrown (fun zt16 => ?_) (fun zt16 => ?_)
  · skip
    refine ck_r ?_
    refine a_ireturn q182_19 (nr_bool rfl (by decide)) ?_
    exact h1 zt16
  · skip
    refine ck_r ?_
    refine a_ireturn q182_19 (nr_bool rfl (by decide)) ?_
    exact h0 (b2i_not zt16)

theorem c_X10_isValue {X : XS} {h : AH} {Q : AO → AH → Prop} {v : Int32} (hq : Q (.inl (some (.int (b2i (isVal v))))) h) : Call X 139 [.int v] h Q := by
  refine call_of (by decide) rfl rfl ?_
  refine a_iload_n (i := 0) q139_0 rfl rfl ?_
  refine a_sipush (v := (-9999)) q139_1 (by decide) ?_
  refine a_sipush (v := 9999) q139_4 (by decide) ?_
  refine a_cs3 q139_7 rfl ⟨rfl, rfl⟩ rfl ?_
  refine c_X10_isIn ?_
  refine ck_r ?_
  refine a_if_ne (tgt := 20) q139_10 (by decide) (fun zc10 => ?_) (fun zc10 => ?_)
  · skip
    refine a_iconst (v := 1) q139_20 (by decide) ?_
    refine a_goto (tgt := 25) q139_21 (by decide) ?_
    refine a_ireturn q139_25 (nr_bool rfl (by decide)) ?_
    exact lfi hq (by have zl := lits; unfold b2i; split <;> ((try simp only [b2i_z, Classical.not_not] at *) <;> ((try simp only [isCol, isChan, isMk, isVal, i_lt, i_le, i_eq] at *) <;> omega)))
  · skip
    refine a_iload_n (i := 0) q139_13 rfl rfl ?_
    refine a_sipush (v := (-10000)) q139_14 (by decide) ?_
    refine a_icmp_ne (tgt := 24) q139_17 (by decide) (fun zc17 => ?_) (fun zc17 => ?_)
    · skip
      refine a_iconst (v := 0) q139_24 (by decide) ?_
      refine a_ireturn q139_25 (nr_bool rfl (by decide)) ?_
      exact lfi hq (by have zl := lits; unfold b2i; split <;> ((try simp only [b2i_z, Classical.not_not] at *) <;> ((try simp only [isCol, isChan, isMk, isVal, i_lt, i_le, i_eq] at *) <;> omega)))
    · skip
      refine a_iconst (v := 1) q139_20 (by decide) ?_
      refine a_goto (tgt := 25) q139_21 (by decide) ?_
      refine a_ireturn q139_25 (nr_bool rfl (by decide)) ?_
      exact lfi hq (by have zl := lits; unfold b2i; split <;> ((try simp only [b2i_z, Classical.not_not] at *) <;> ((try simp only [isCol, isChan, isMk, isVal, i_lt, i_le, i_eq] at *) <;> omega)))

theorem c_X10_isMark {X : XS} {h : AH} {Q : AO → AH → Prop} {m : Int32} (hq : Q (.inl (some (.int (b2i (isMk m))))) h) : Call X 158 [.int m] h Q := by
  refine call_of (by decide) rfl rfl ?_
  refine a_iload_n (i := 0) q158_0 rfl rfl ?_
  refine a_bipush (v := 98) q158_1 (by decide) ?_
  refine a_icmp_eq (tgt := 18) q158_3 (by decide) (fun zc3 => ?_) (fun zc3 => ?_)
  · skip
    refine a_iconst (v := 1) q158_18 (by decide) ?_
    refine a_goto (tgt := 23) q158_19 (by decide) ?_
    refine a_ireturn q158_23 (nr_bool rfl (by decide)) ?_
    exact lfi hq (by have zl := lits; unfold b2i; split <;> ((try simp only [b2i_z, Classical.not_not] at *) <;> ((try simp only [isCol, isChan, isMk, isVal, i_lt, i_le, i_eq] at *) <;> omega)))
  · skip
    refine a_iload_n (i := 0) q158_6 rfl rfl ?_
    refine a_bipush (v := 108) q158_7 (by decide) ?_
    refine a_icmp_eq (tgt := 18) q158_9 (by decide) (fun zc9 => ?_) (fun zc9 => ?_)
    · skip
      refine a_iconst (v := 1) q158_18 (by decide) ?_
      refine a_goto (tgt := 23) q158_19 (by decide) ?_
      refine a_ireturn q158_23 (nr_bool rfl (by decide)) ?_
      exact lfi hq (by have zl := lits; unfold b2i; split <;> ((try simp only [b2i_z, Classical.not_not] at *) <;> ((try simp only [isCol, isChan, isMk, isVal, i_lt, i_le, i_eq] at *) <;> omega)))
    · skip
      refine a_iload_n (i := 0) q158_12 rfl rfl ?_
      refine a_bipush (v := 112) q158_13 (by decide) ?_
      refine a_icmp_ne (tgt := 22) q158_15 (by decide) (fun zc15 => ?_) (fun zc15 => ?_)
      · skip
        refine a_iconst (v := 0) q158_22 (by decide) ?_
        refine a_ireturn q158_23 (nr_bool rfl (by decide)) ?_
        exact lfi hq (by have zl := lits; unfold b2i; split <;> ((try simp only [b2i_z, Classical.not_not] at *) <;> ((try simp only [isCol, isChan, isMk, isVal, i_lt, i_le, i_eq] at *) <;> omega)))
      · skip
        refine a_iconst (v := 1) q158_18 (by decide) ?_
        refine a_goto (tgt := 23) q158_19 (by decide) ?_
        refine a_ireturn q158_23 (nr_bool rfl (by decide)) ?_
        exact lfi hq (by have zl := lits; unfold b2i; split <;> ((try simp only [b2i_z, Classical.not_not] at *) <;> ((try simp only [isCol, isChan, isMk, isVal, i_lt, i_le, i_eq] at *) <;> omega)))

abbrev mAdd (A : Nat → Nat → Int32) (n : Nat) (a b c d e f : Int32) : Nat → Nat → Int32 := va_up A 22 (upd (upd (upd (upd (upd (upd (A 22) (6 * n) a) (6 * n + 1) b) (6 * n + 2) c) (6 * n + 3) d) (6 * n + 4) e) (6 * n + 5) f)
theorem c_X10_addRow {X : XS} {I : Nat → Int32} {A : Nat → Nat → Int32} {L : Nat → Nat → Int64} {O : Nat → UInt64} {Q : AO → AH → Prop} {a b c d e f : Int32} {n : Nat} (hn : I 20 = nI n) (hn40 : n ≤ 40) (h1 : ¬ (isVal a ∧ isVal b ∧ isVal c ∧ isVal d ∧ isVal e ∧ isVal f) → Q (.inl (some (.int 0))) (hp (va_up I 26 1) A L O)) (h2 : (isVal a ∧ isVal b ∧ isVal c ∧ isVal d ∧ isVal e ∧ isVal f) → n = 40 → Q (.inl (some (.int 0))) (hp (va_up I 26 2) A L O)) (h3 : (isVal a ∧ isVal b ∧ isVal c ∧ isVal d ∧ isVal e ∧ isVal f) → n < 40 → Q (.inl (some (.int (nI (n + 1))))) (hp (va_up (va_up (va_up I 26 0) 29 0) 20 (nI (n + 1))) (mAdd A n a b c d e f) L O)) : Call X 140 [.ref 21, .int a, .int b, .int c, .int d, .int e, .int f] (hp I A L O) Q := by
  refine call_of (by decide) rfl rfl ?_
  refine a_aload_n (i := 0) q140_0 rfl rfl ?_
  refine AW.cut 51 (b2i (¬ (isVal a ∧ isVal b ∧ isVal c ∧ isVal d ∧ isVal e ∧ isVal f))) (fun zk51 => ?_) ?_
  · skip
    refine a_iload_n (i := 1) q140_1 rfl rfl ?_
    refine a_cs1 q140_2 rfl ⟨rfl, rfl⟩ rfl ?_
    refine c_X10_isValue ?_
    refine ck_r ?_
    refine a_if_eq (tgt := 46) q140_5 (by decide) (fun zc5 => ?_) (fun zc5 => ?_)
    · skip
      refine a_iconst (v := 1) q140_46 (by decide) ?_
      refine a_goto (tgt := 51) q140_47 (by decide) ?_
      exact cutv zk51 (b2i_t (p := ¬ (isVal a ∧ isVal b ∧ isVal c ∧ isVal d ∧ isVal e ∧ isVal f)) (fun zh => b2i_z.mp zc5 zh.1))
    · skip
      refine a_iload_n (i := 2) q140_8 rfl rfl ?_
      refine a_cs1 q140_9 rfl ⟨rfl, rfl⟩ rfl ?_
      refine c_X10_isValue ?_
      refine ck_r ?_
      refine a_if_eq (tgt := 46) q140_12 (by decide) (fun zc12 => ?_) (fun zc12 => ?_)
      · skip
        refine a_iconst (v := 1) q140_46 (by decide) ?_
        refine a_goto (tgt := 51) q140_47 (by decide) ?_
        exact cutv zk51 (b2i_t (p := ¬ (isVal a ∧ isVal b ∧ isVal c ∧ isVal d ∧ isVal e ∧ isVal f)) (fun zh => b2i_z.mp zc12 zh.2.1))
      · skip
        refine a_iload_n (i := 3) q140_15 rfl rfl ?_
        refine a_cs1 q140_16 rfl ⟨rfl, rfl⟩ rfl ?_
        refine c_X10_isValue ?_
        refine ck_r ?_
        refine a_if_eq (tgt := 46) q140_19 (by decide) (fun zc19 => ?_) (fun zc19 => ?_)
        · skip
          refine a_iconst (v := 1) q140_46 (by decide) ?_
          refine a_goto (tgt := 51) q140_47 (by decide) ?_
          exact cutv zk51 (b2i_t (p := ¬ (isVal a ∧ isVal b ∧ isVal c ∧ isVal d ∧ isVal e ∧ isVal f)) (fun zh => b2i_z.mp zc19 zh.2.2.1))
        · skip
          refine a_iload q140_22 rfl ?_
          refine a_cs1 q140_24 rfl ⟨rfl, rfl⟩ rfl ?_
          refine c_X10_isValue ?_
          refine ck_r ?_
          refine a_if_eq (tgt := 46) q140_27 (by decide) (fun zc27 => ?_) (fun zc27 => ?_)
          · skip
            refine a_iconst (v := 1) q140_46 (by decide) ?_
            refine a_goto (tgt := 51) q140_47 (by decide) ?_
            exact cutv zk51 (b2i_t (p := ¬ (isVal a ∧ isVal b ∧ isVal c ∧ isVal d ∧ isVal e ∧ isVal f)) (fun zh => b2i_z.mp zc27 zh.2.2.2.1))
          · skip
            refine a_iload q140_30 rfl ?_
            refine a_cs1 q140_32 rfl ⟨rfl, rfl⟩ rfl ?_
            refine c_X10_isValue ?_
            refine ck_r ?_
            refine a_if_eq (tgt := 46) q140_35 (by decide) (fun zc35 => ?_) (fun zc35 => ?_)
            · skip
              refine a_iconst (v := 1) q140_46 (by decide) ?_
              refine a_goto (tgt := 51) q140_47 (by decide) ?_
              exact cutv zk51 (b2i_t (p := ¬ (isVal a ∧ isVal b ∧ isVal c ∧ isVal d ∧ isVal e ∧ isVal f)) (fun zh => b2i_z.mp zc35 zh.2.2.2.2.1))
            · skip
              refine a_iload q140_38 rfl ?_
              refine a_cs1 q140_40 rfl ⟨rfl, rfl⟩ rfl ?_
              refine c_X10_isValue ?_
              refine ck_r ?_
              refine a_if_ne (tgt := 50) q140_43 (by decide) (fun zc43 => ?_) (fun zc43 => ?_)
              · skip
                refine a_iconst (v := 0) q140_50 (by decide) ?_
                exact cutv zk51 (b2i_f (p := ¬ (isVal a ∧ isVal b ∧ isVal c ∧ isVal d ∧ isVal e ∧ isVal f)) (fun zh => zh ⟨b2i_nz.mp zc5, b2i_nz.mp zc12, b2i_nz.mp zc19, b2i_nz.mp zc27, b2i_nz.mp zc35, b2i_nz.mp zc43⟩))
              · skip
                refine a_iconst (v := 1) q140_46 (by decide) ?_
                refine a_goto (tgt := 51) q140_47 (by decide) ?_
                exact cutv zk51 (b2i_t (p := ¬ (isVal a ∧ isVal b ∧ isVal c ∧ isVal d ∧ isVal e ∧ isVal f)) (fun zh => b2i_z.mp zc43 zh.2.2.2.2.2))
  refine a_iconst (v := 1) q140_51 (by decide) ?_
  refine a_cv2 q140_52 rfl rfl ⟨rfl, rfl⟩ rfl ?_
  refine c_X10_isThrown (fun zt52 => ?_) (fun zt52 => ?_)
  · skip
    refine ck_r ?_
    refine a_if_ne (tgt := 80) q140_55 (by decide) (fun zc55 => ?_) (fun zc55 => absurd zc55 (by decide))
    refine a_iconst (v := 0) q140_80 (by decide) ?_
    refine a_ireturn q140_81 (nr_int rfl _) ?_
    exact lfh (h1 zt52) rfl
  · skip
    refine ck_r ?_
    refine a_if_ne (tgt := 80) q140_55 (by decide) (fun zc55 => absurd zc55 (by decide)) (fun zc55 => ?_)
    refine a_aload_n (i := 0) q140_58 rfl rfl ?_
    refine AW.cut 73 (b2i (n = 40)) (fun zk73 => ?_) ?_
    · skip
      refine a_aload_n (i := 0) q140_59 rfl rfl ?_
      refine a_getfield q140_60 rfl rfl ?_
      refine AW.ti hn ?_
      refine a_bipush (v := 40) q140_63 (by decide) ?_
      refine a_icmp_ne (tgt := 72) q140_65 (by decide) (fun zc65 => ?_) (fun zc65 => ?_)
      · skip
        refine a_iconst (v := 0) q140_72 (by decide) ?_
        exact cutv zk73 (b2i_f (fun zz => zc65 (by rw [zz]; rfl)))
      · skip
        refine a_iconst (v := 1) q140_68 (by decide) ?_
        refine a_goto (tgt := 73) q140_69 (by decide) ?_
        exact cutv zk73 (b2i_t ((nI_eq (b := 40) (by omega) (by decide)).mp zc65))
    refine a_iconst (v := 2) q140_73 (by decide) ?_
    refine a_cv2 q140_74 rfl rfl ⟨rfl, rfl⟩ rfl ?_
    refine c_X10_isThrown (fun zt74 => ?_) (fun zt74 => ?_)
    · skip
      refine ck_r ?_
      refine a_if_eq (tgt := 82) q140_77 (by decide) (fun zc77 => absurd zc77 (by decide)) (fun zc77 => ?_)
      refine a_iconst (v := 0) q140_80 (by decide) ?_
      refine a_ireturn q140_81 (nr_int rfl _) ?_
      exact lfh (h2 (b2i_not zt52) zt74) rfl
    · skip
      refine ck_r ?_
      refine a_if_eq (tgt := 82) q140_77 (by decide) (fun zc77 => ?_) (fun zc77 => absurd (by decide) zc77)
      refine a_aload_n (i := 0) q140_82 rfl rfl ?_
      refine a_iconst (v := 0) q140_83 (by decide) ?_
      refine a_putfield q140_84 rfl rfl rfl rfl ?_
      refine AW.hp (h' := hp (va_up (va_up I 26 0) 29 0) A L O) rfl ?_
      refine a_bipush (v := 6) q140_87 (by decide) ?_
      refine a_aload_n (i := 0) q140_89 rfl rfl ?_
      refine a_getfield q140_90 rfl rfl ?_
      refine AW.ti hn ?_
      have zlt : n < 40 := by omega
      refine a_imul q140_93 ?_
      refine AW.ti (nI_6 n) ?_
      refine a_istore (i := 7) (lv' := [(0, _), (1, _), (2, _), (3, _), (4, _), (5, _), (6, _), (7, _)]) q140_94 rfl rfl ?_
      refine a_aload_n (i := 0) q140_96 rfl rfl ?_
      refine a_getfield q140_97 rfl rfl ?_
      refine a_iload q140_100 rfl ?_
      refine a_iload_n (i := 1) q140_102 rfl rfl ?_
      refine a_iast' (j := 6 * n) q140_103 rfl rfl (by omega) (by decide) (h' := hp (va_up (va_up I 26 0) 29 0) (va_up A 22 (upd (A 22) (6 * n) a)) L O) rfl ?_
      refine a_aload_n (i := 0) q140_104 rfl rfl ?_
      refine a_getfield q140_105 rfl rfl ?_
      refine a_iload q140_108 rfl ?_
      refine a_iconst (v := 1) q140_110 (by decide) ?_
      refine a_iadd q140_111 ?_
      refine a_iload_n (i := 2) q140_112 rfl rfl ?_
      refine a_iast' (j := 6 * n + 1) q140_113 rfl (nI_add (6 * n) 1) (by omega) (by decide) (h' := hp (va_up (va_up I 26 0) 29 0) (va_up A 22 (upd (upd (A 22) (6 * n) a) (6 * n + 1) b)) L O) rfl ?_
      refine a_aload_n (i := 0) q140_114 rfl rfl ?_
      refine a_getfield q140_115 rfl rfl ?_
      refine a_iload q140_118 rfl ?_
      refine a_iconst (v := 2) q140_120 (by decide) ?_
      refine a_iadd q140_121 ?_
      refine a_iload_n (i := 3) q140_122 rfl rfl ?_
      refine a_iast' (j := 6 * n + 2) q140_123 rfl (nI_add (6 * n) 2) (by omega) (by decide) (h' := hp (va_up (va_up I 26 0) 29 0) (va_up A 22 (upd (upd (upd (A 22) (6 * n) a) (6 * n + 1) b) (6 * n + 2) c)) L O) rfl ?_
      refine a_aload_n (i := 0) q140_124 rfl rfl ?_
      refine a_getfield q140_125 rfl rfl ?_
      refine a_iload q140_128 rfl ?_
      refine a_iconst (v := 3) q140_130 (by decide) ?_
      refine a_iadd q140_131 ?_
      refine a_iload q140_132 rfl ?_
      refine a_iast' (j := 6 * n + 3) q140_134 rfl (nI_add (6 * n) 3) (by omega) (by decide) (h' := hp (va_up (va_up I 26 0) 29 0) (va_up A 22 (upd (upd (upd (upd (A 22) (6 * n) a) (6 * n + 1) b) (6 * n + 2) c) (6 * n + 3) d)) L O) rfl ?_
      refine a_aload_n (i := 0) q140_135 rfl rfl ?_
      refine a_getfield q140_136 rfl rfl ?_
      refine a_iload q140_139 rfl ?_
      refine a_iconst (v := 4) q140_141 (by decide) ?_
      refine a_iadd q140_142 ?_
      refine a_iload q140_143 rfl ?_
      refine a_iast' (j := 6 * n + 4) q140_145 rfl (nI_add (6 * n) 4) (by omega) (by decide) (h' := hp (va_up (va_up I 26 0) 29 0) (va_up A 22 (upd (upd (upd (upd (upd (A 22) (6 * n) a) (6 * n + 1) b) (6 * n + 2) c) (6 * n + 3) d) (6 * n + 4) e)) L O) rfl ?_
      refine a_aload_n (i := 0) q140_146 rfl rfl ?_
      refine a_getfield q140_147 rfl rfl ?_
      refine a_iload q140_150 rfl ?_
      refine a_iconst (v := 5) q140_152 (by decide) ?_
      refine a_iadd q140_153 ?_
      refine a_iload q140_154 rfl ?_
      refine a_iast' (j := 6 * n + 5) q140_156 rfl (nI_add (6 * n) 5) (by omega) (by decide) (h' := hp (va_up (va_up I 26 0) 29 0) (va_up A 22 (upd (upd (upd (upd (upd (upd (A 22) (6 * n) a) (6 * n + 1) b) (6 * n + 2) c) (6 * n + 3) d) (6 * n + 4) e) (6 * n + 5) f)) L O) rfl ?_
      refine a_aload_n (i := 0) q140_157 rfl rfl ?_
      refine a_dup q140_158 rfl ?_
      refine a_getfield q140_159 rfl rfl ?_
      refine a_iconst (v := 1) q140_162 (by decide) ?_
      refine a_iadd q140_163 ?_
      refine AW.ti (show I 20 + 1 = nI (n + 1) by rw [hn]; exact nI_1 n) ?_
      refine a_putfield q140_164 rfl rfl rfl rfl ?_
      refine AW.hp (h' := hp (va_up (va_up (va_up I 26 0) 29 0) 20 (nI (n + 1))) (mAdd A n a b c d e f) L O) rfl ?_
      refine a_aload_n (i := 0) q140_167 rfl rfl ?_
      refine a_getfield q140_168 rfl rfl ?_
      refine a_ireturn q140_171 (nr_int rfl _) ?_
      exact lfh (lfi (h3 (b2i_not zt52) (by omega)) rfl) rfl

def mDrp (f : Nat → Int32) : Nat → Nat → Nat → Int32
  | _, 0 => f
  | k, c + 1 => mDrp (upd f k (f (k + 6))) (k + 1) c
theorem l_mdrop (m : Nat) : ∀ {X : XS} {I : Nat → Int32} {A : Nat → Nat → Int32} {L : Nat → Nat → Int64} {O : Nat → UInt64} {Q : AO → AH → Prop} {r : Int32} {k n : Nat} (hn : I 20 = nI n) (hn40 : n < 40) (hm : k + m = 6 * n) (hq : Q (.inl (some (.int (nI n)))) (hp I (va_up A 22 (mDrp (A 22) k m)) L O)), AW X 141 49 [(0, .ref 21), (1, .int r), (2, .int (nI k))] [] (hp I A L O) 0 0 Q := by
  induction m with
  | zero =>
    intro X I A L O Q r k n hn hn40 hm hq
    refine a_iload_n (i := 2) q141_49 rfl rfl ?_
    refine a_bipush (v := 6) q141_50 (by decide) ?_
    refine a_aload_n (i := 0) q141_52 rfl rfl ?_
    refine a_getfield q141_53 rfl rfl ?_
    refine AW.ti hn ?_
    refine a_imul q141_56 ?_
    refine AW.ti (nI_6 n) ?_
    refine a_icmp_ge (tgt := 81) q141_57 (by decide) (fun zc57 => ?_) (fun zc57 => absurd (nI_le (show 6 * n ≤ k by omega) (by omega)) zc57)
    refine a_aload_n (i := 0) q141_81 rfl rfl ?_
    refine a_getfield q141_82 rfl rfl ?_
    refine a_ireturn q141_85 (nr_int rfl _) ?_
    have zq : Q (.inl (some (.int (nI n)))) (hp I (va_up A 22 (A 22)) L O) := hq
    exact lfh (lfi zq hn) rfl
  | succ m ih =>
    intro X I A L O Q r k n hn hn40 hm hq
    refine a_iload_n (i := 2) q141_49 rfl rfl ?_
    refine a_bipush (v := 6) q141_50 (by decide) ?_
    refine a_aload_n (i := 0) q141_52 rfl rfl ?_
    refine a_getfield q141_53 rfl rfl ?_
    refine AW.ti hn ?_
    refine a_imul q141_56 ?_
    refine AW.ti (nI_6 n) ?_
    refine a_icmp_ge (tgt := 81) q141_57 (by decide) (fun zc57 => absurd zc57 (nI_ge (show k < 6 * n by omega) (by omega))) (fun zc57 => ?_)
    refine a_aload_n (i := 0) q141_60 rfl rfl ?_
    refine a_getfield q141_61 rfl rfl ?_
    refine a_iload_n (i := 2) q141_64 rfl rfl ?_
    refine a_aload_n (i := 0) q141_65 rfl rfl ?_
    refine a_getfield q141_66 rfl rfl ?_
    refine a_iload_n (i := 2) q141_69 rfl rfl ?_
    refine a_bipush (v := 6) q141_70 (by decide) ?_
    refine a_iadd q141_72 ?_
    refine a_iald' (j := k + 6) q141_73 rfl (nI_add k 6) (by omega) (by decide) ?_
    refine a_iast' (j := k) q141_74 rfl rfl (by omega) (by decide) (h' := hp I (va_up A 22 (upd (A 22) k (A 22 (k + 6)))) L O) rfl ?_
    refine a_iinc (v := nI (k + 1)) (lv' := [(0, _), (1, _), (2, _)]) q141_75 rfl rfl (nI_1 (k)) rfl ?_
    refine a_goto (tgt := 49) q141_78 (by decide) ?_
    exact ih hn hn40 (show k + 1 + m = 6 * n by omega) (lfh hq rfl)

theorem c_X10_dropRow {X : XS} {I : Nat → Int32} {A : Nat → Nat → Int32} {L : Nat → Nat → Int64} {O : Nat → UInt64} {Q : AO → AH → Prop} {r : Int32} {n : Nat} (hn : I 20 = nI n) (hn40 : n ≤ 40) (h1 : ¬ inRow n r → Q (.inl (some (.int 0))) (hp (va_up I 26 1) A L O)) (h0 : ∀ j k, r = nI j → n = k + 1 → j ≤ k → Q (.inl (some (.int (nI k)))) (hp (va_up (va_up (va_up I 26 0) 29 0) 20 (nI k)) (va_up A 22 (mDrp (A 22) (6 * j) (6 * k - 6 * j))) L O)) : Call X 141 [.ref 21, .int r] (hp I A L O) Q := by
  refine call_of (by decide) rfl rfl ?_
  refine a_aload_n (i := 0) q141_0 rfl rfl ?_
  refine AW.cut 20 (b2i (¬ inRow n r)) (fun zk20 => ?_) ?_
  · skip
    refine a_iload_n (i := 1) q141_1 rfl rfl ?_
    refine a_iconst (v := 0) q141_2 (by decide) ?_
    refine a_aload_n (i := 0) q141_3 rfl rfl ?_
    refine a_getfield q141_4 rfl rfl ?_
    refine a_iconst (v := 1) q141_7 (by decide) ?_
    refine a_isub q141_8 ?_
    refine AW.ti (show I 20 - 1 = nI n - 1 by rw [hn]) ?_
    refine a_cs3 q141_9 rfl ⟨rfl, rfl⟩ rfl ?_
    refine c_X10_isIn (lfi (x := b2i (inRow n r)) ?_ (by unfold b2i; simp only [inRow, le_m1 hn40]))
    refine ck_r ?_
    refine a_if_ne (tgt := 19) q141_12 (by decide) (fun zc12 => ?_) (fun zc12 => ?_)
    · skip
      refine a_iconst (v := 0) q141_19 (by decide) ?_
      exact cutv zk20 (b2i_f (fun zz => zz (b2i_nz.mp zc12)))
    · skip
      refine a_iconst (v := 1) q141_15 (by decide) ?_
      refine a_goto (tgt := 20) q141_16 (by decide) ?_
      exact cutv zk20 (b2i_t (b2i_z.mp zc12))
  refine a_iconst (v := 1) q141_20 (by decide) ?_
  refine a_cv2 q141_21 rfl rfl ⟨rfl, rfl⟩ rfl ?_
  refine c_X10_isThrown (fun zt21 => ?_) (fun zt21 => ?_)
  · skip
    refine ck_r ?_
    refine a_if_eq (tgt := 29) q141_24 (by decide) (fun zc24 => absurd zc24 (by decide)) (fun zc24 => ?_)
    refine a_iconst (v := 0) q141_27 (by decide) ?_
    refine a_ireturn q141_28 (nr_int rfl _) ?_
    exact h1 zt21
  · skip
    refine ck_r ?_
    refine a_if_eq (tgt := 29) q141_24 (by decide) (fun zc24 => ?_) (fun zc24 => absurd (by decide) zc24)
    refine a_aload_n (i := 0) q141_29 rfl rfl ?_
    obtain ⟨j, hj, zr⟩ := inRow_of hn40 (b2i_not zt21)
    obtain ⟨k, zk⟩ : ∃ k, n = k + 1 := ⟨n - 1, by omega⟩
    subst zk
    subst zr
    refine a_iconst (v := 0) q141_30 (by decide) ?_
    refine a_putfield q141_31 rfl rfl rfl rfl ?_
    refine AW.hp (h' := hp (va_up (va_up I 26 0) 29 0) A L O) rfl ?_
    refine a_aload_n (i := 0) q141_34 rfl rfl ?_
    refine a_dup q141_35 rfl ?_
    refine a_getfield q141_36 rfl rfl ?_
    refine a_iconst (v := 1) q141_39 (by decide) ?_
    refine a_isub q141_40 ?_
    refine AW.ti (show I 20 - 1 = nI k by rw [hn]; exact nI_pred k) ?_
    refine a_putfield q141_41 rfl rfl rfl rfl ?_
    refine AW.hp (h' := hp (va_up (va_up (va_up I 26 0) 29 0) 20 (nI k)) A L O) rfl ?_
    refine a_bipush (v := 6) q141_44 (by decide) ?_
    refine a_iload_n (i := 1) q141_46 rfl rfl ?_
    refine a_imul q141_47 ?_
    refine AW.ti (nI_6 j) ?_
    refine a_istore_n (i := 2) (lv' := [(0, _), (1, _), (2, _)]) q141_48 rfl rfl rfl ?_
    exact l_mdrop (6 * k - 6 * j) (n := k) rfl (by omega) (by omega) (lfh (h0 j k rfl rfl (by omega)) rfl)

theorem c_X10_put {X : XS} {I : Nat → Int32} {A : Nat → Nat → Int32} {L : Nat → Nat → Int64} {O : Nat → UInt64} {Q : AO → AH → Prop} {r c v : Int32} {n : Nat} (hn : I 20 = nI n) (hn40 : n ≤ 40) (h1 : ¬ (inRow n r ∧ isCol c) → Q (.inl (some (.int 0))) (hp (va_up I 26 1) A L O)) (h2 : inRow n r ∧ isCol c → ¬ isVal v → Q (.inl (some (.int 0))) (hp (va_up I 26 2) A L O)) (h3 : ∀ j k, j < n → k < 6 → r = nI j → c = nI k → isVal v → Q (.inl (some (.int (mv A k j)))) (hp (va_up (va_up I 26 0) 29 0) (va_up A 22 (upd (A 22) (6 * j + k) v)) L O)) : Call X 142 [.ref 21, .int r, .int c, .int v] (hp I A L O) Q := by
  refine call_of (by decide) rfl rfl ?_
  refine a_aload_n (i := 0) q142_0 rfl rfl ?_
  refine AW.cut 29 (b2i (¬ (inRow n r ∧ isCol c))) (fun zk29 => ?_) ?_
  · skip
    refine a_iload_n (i := 1) q142_1 rfl rfl ?_
    refine a_iconst (v := 0) q142_2 (by decide) ?_
    refine a_aload_n (i := 0) q142_3 rfl rfl ?_
    refine a_getfield q142_4 rfl rfl ?_
    refine a_iconst (v := 1) q142_7 (by decide) ?_
    refine a_isub q142_8 ?_
    refine AW.ti (show I 20 - 1 = nI n - 1 by rw [hn]) ?_
    refine a_cs3 q142_9 rfl ⟨rfl, rfl⟩ rfl ?_
    refine c_X10_isIn (lfi (x := b2i (inRow n r)) ?_ (by unfold b2i; simp only [inRow, le_m1 hn40]))
    refine ck_r ?_
    refine a_if_eq (tgt := 24) q142_12 (by decide) (fun zc12 => ?_) (fun zc12 => ?_)
    · skip
      refine a_iconst (v := 1) q142_24 (by decide) ?_
      refine a_goto (tgt := 29) q142_25 (by decide) ?_
      exact cutv zk29 (b2i_t (fun zz => b2i_z.mp zc12 zz.1))
    · skip
      refine a_iload_n (i := 2) q142_15 rfl rfl ?_
      refine a_iconst (v := 0) q142_16 (by decide) ?_
      refine a_iconst (v := 5) q142_17 (by decide) ?_
      refine a_cs3 q142_18 rfl ⟨rfl, rfl⟩ rfl ?_
      refine c_X10_isIn (lfi (x := b2i (isCol c)) ?_ (by have zl := lits; unfold b2i; simp only [isCol]; split <;> split <;> ((try simp only [b2i_z, Classical.not_not] at *) <;> ((try simp only [isCol, isChan, isMk, isVal, i_lt, i_le, i_eq] at *) <;> omega))))
      refine ck_r ?_
      refine a_if_ne (tgt := 28) q142_21 (by decide) (fun zc21 => ?_) (fun zc21 => ?_)
      · skip
        refine a_iconst (v := 0) q142_28 (by decide) ?_
        exact cutv zk29 (b2i_f (fun zz => zz ⟨b2i_nz.mp zc12, b2i_nz.mp zc21⟩))
      · skip
        refine a_iconst (v := 1) q142_24 (by decide) ?_
        refine a_goto (tgt := 29) q142_25 (by decide) ?_
        exact cutv zk29 (b2i_t (fun zz => b2i_z.mp zc21 zz.2))
  refine a_iconst (v := 1) q142_29 (by decide) ?_
  refine a_cv2 q142_30 rfl rfl ⟨rfl, rfl⟩ rfl ?_
  refine c_X10_isThrown (fun zt30 => ?_) (fun zt30 => ?_)
  · skip
    refine ck_r ?_
    refine a_if_ne (tgt := 56) q142_33 (by decide) (fun zc33 => ?_) (fun zc33 => absurd zc33 (by decide))
    refine a_iconst (v := 0) q142_56 (by decide) ?_
    refine a_ireturn q142_57 (nr_int rfl _) ?_
    exact lfh (h1 zt30) rfl
  · skip
    refine ck_r ?_
    refine a_if_ne (tgt := 56) q142_33 (by decide) (fun zc33 => absurd zc33 (by decide)) (fun zc33 => ?_)
    refine a_aload_n (i := 0) q142_36 rfl rfl ?_
    refine AW.cut 49 (b2i (¬ isVal v)) (fun zk49 => ?_) ?_
    · skip
      refine a_iload_n (i := 3) q142_37 rfl rfl ?_
      refine a_cs1 q142_38 rfl ⟨rfl, rfl⟩ rfl ?_
      refine c_X10_isValue ?_
      refine ck_r ?_
      refine a_if_ne (tgt := 48) q142_41 (by decide) (fun zc41 => ?_) (fun zc41 => ?_)
      · skip
        refine a_iconst (v := 0) q142_48 (by decide) ?_
        exact cutv zk49 (b2i_f (fun zz => zz (b2i_nz.mp zc41)))
      · skip
        refine a_iconst (v := 1) q142_44 (by decide) ?_
        refine a_goto (tgt := 49) q142_45 (by decide) ?_
        exact cutv zk49 (b2i_t (b2i_z.mp zc41))
    refine a_iconst (v := 2) q142_49 (by decide) ?_
    refine a_cv2 q142_50 rfl rfl ⟨rfl, rfl⟩ rfl ?_
    refine c_X10_isThrown (fun zt50 => ?_) (fun zt50 => ?_)
    · skip
      refine ck_r ?_
      refine a_if_eq (tgt := 58) q142_53 (by decide) (fun zc53 => absurd zc53 (by decide)) (fun zc53 => ?_)
      refine a_iconst (v := 0) q142_56 (by decide) ?_
      refine a_ireturn q142_57 (nr_int rfl _) ?_
      exact lfh (h2 (b2i_not zt30) zt50) rfl
    · skip
      refine ck_r ?_
      refine a_if_eq (tgt := 58) q142_53 (by decide) (fun zc53 => ?_) (fun zc53 => absurd (by decide) zc53)
      refine a_aload_n (i := 0) q142_58 rfl rfl ?_
      obtain ⟨j, hj, zr⟩ := inRow_of hn40 (b2i_not zt30).1
      obtain ⟨k, hk, zkc⟩ := isCol_of (b2i_not zt30).2
      subst zr
      subst zkc
      refine a_getfield q142_59 rfl rfl ?_
      refine a_bipush (v := 6) q142_62 (by decide) ?_
      refine a_iload_n (i := 1) q142_64 rfl rfl ?_
      refine a_imul q142_65 ?_
      refine a_iload_n (i := 2) q142_66 rfl rfl ?_
      refine a_iadd q142_67 ?_
      refine a_iald' (j := 6 * j + k) q142_68 rfl (nI_ix6 j k) (by omega) (by decide) ?_
      refine a_istore (i := 4) (lv' := [(0, _), (1, _), (2, _), (3, _), (4, _)]) q142_69 rfl rfl ?_
      refine a_aload_n (i := 0) q142_71 rfl rfl ?_
      refine a_iconst (v := 0) q142_72 (by decide) ?_
      refine a_putfield q142_73 rfl rfl rfl rfl ?_
      refine AW.hp (h' := hp (va_up (va_up I 26 0) 29 0) A L O) rfl ?_
      refine a_aload_n (i := 0) q142_76 rfl rfl ?_
      refine a_getfield q142_77 rfl rfl ?_
      refine a_bipush (v := 6) q142_80 (by decide) ?_
      refine a_iload_n (i := 1) q142_82 rfl rfl ?_
      refine a_imul q142_83 ?_
      refine a_iload_n (i := 2) q142_84 rfl rfl ?_
      refine a_iadd q142_85 ?_
      refine a_iload_n (i := 3) q142_86 rfl rfl ?_
      refine a_iast' (j := 6 * j + k) q142_87 rfl (nI_ix6 j k) (by omega) (by decide) (h' := hp (va_up (va_up I 26 0) 29 0) (va_up A 22 (upd (A 22) (6 * j + k) v)) L O) rfl ?_
      refine a_iload q142_88 rfl ?_
      refine a_ireturn q142_90 (nr_int rfl _) ?_
      exact lfi (h3 j k hj hk rfl rfl (b2i_not zt50)) rfl

theorem c_X10_rows {X : XS} {I : Nat → Int32} {A : Nat → Nat → Int32} {L : Nat → Nat → Int64} {O : Nat → UInt64} {Q : AO → AH → Prop}  (hq : Q (.inl (some (.int (I 20)))) (hp (va_up I 26 0) A L O)) : Call X 143 [.ref 21] (hp I A L O) Q := by
  refine call_of (by decide) rfl rfl ?_
  refine a_aload_n (i := 0) q143_0 rfl rfl ?_
  refine a_iconst (v := 0) q143_1 (by decide) ?_
  refine a_putfield q143_2 rfl rfl rfl rfl ?_
  refine a_aload_n (i := 0) q143_5 rfl rfl ?_
  refine a_getfield q143_6 rfl rfl ?_
  refine a_ireturn q143_9 (nr_int rfl _) ?_
  exact lfh hq rfl

theorem c_X10_at {X : XS} {I : Nat → Int32} {A : Nat → Nat → Int32} {L : Nat → Nat → Int64} {O : Nat → UInt64} {Q : AO → AH → Prop} {j k : Nat} (hj : j < 40) (hk : k < 6) (hq : Q (.inl (some (.int (mv A k j)))) (hp I A L O)) : Call X 144 [.ref 21, .int (nI j), .int (nI k)] (hp I A L O) Q := by
  refine call_of (by decide) rfl rfl ?_
  refine a_aload_n (i := 0) q144_0 rfl rfl ?_
  refine a_getfield q144_1 rfl rfl ?_
  refine a_bipush (v := 6) q144_4 (by decide) ?_
  refine a_iload_n (i := 1) q144_6 rfl rfl ?_
  refine a_imul q144_7 ?_
  refine a_iload_n (i := 2) q144_8 rfl rfl ?_
  refine a_iadd q144_9 ?_
  refine a_iald' (j := 6 * j + k) q144_10 rfl (nI_ix6 j k) (by omega) (by decide) ?_
  refine a_ireturn q144_11 (nr_int rfl _) ?_
  exact hq

theorem l_many (m : Nat) : ∀ {X : XS} {I : Nat → Int32} {A : Nat → Nat → Int32} {L : Nat → Nat → Int64} {O : Nat → UInt64} {Q : AO → AH → Prop} {c r n : Nat} (hn : I 20 = nI n) (hn40 : n ≤ 40) (hc : c < 6) (hm : r + m = n) (hq : Q (.inl (some (.int (stCnt (mv A c) n)))) (hp I A L O)), AW X 145 4 [(0, .ref 21), (1, .int (nI c)), (2, .int (stCnt (mv A c) r)), (3, .int (nI r))] [] (hp I A L O) 0 0 Q := by
  induction m with
  | zero =>
    intro X I A L O Q c r n hn hn40 hc hm hq
    refine a_iload_n (i := 3) q145_4 rfl rfl ?_
    refine a_aload_n (i := 0) q145_5 rfl rfl ?_
    refine a_getfield q145_6 rfl rfl ?_
    refine AW.ti hn ?_
    refine a_icmp_ge (tgt := 38) q145_9 (by decide) (fun zc9 => ?_) (fun zc9 => absurd (nI_le (show n ≤ r by omega) (by omega)) zc9)
    refine a_iload_n (i := 2) q145_38 rfl rfl ?_
    refine a_ireturn q145_39 (nr_int rfl _) ?_
    have zr : n = r := by omega
    subst zr
    exact hq
  | succ m ih =>
    intro X I A L O Q c r n hn hn40 hc hm hq
    refine a_iload_n (i := 3) q145_4 rfl rfl ?_
    refine a_aload_n (i := 0) q145_5 rfl rfl ?_
    refine a_getfield q145_6 rfl rfl ?_
    refine AW.ti hn ?_
    refine a_icmp_ge (tgt := 38) q145_9 (by decide) (fun zc9 => absurd zc9 (nI_ge (show r < n by omega) (by omega))) (fun zc9 => ?_)
    refine a_iload_n (i := 2) q145_12 rfl rfl ?_
    refine a_aload_n (i := 0) q145_13 rfl rfl ?_
    refine a_iload_n (i := 3) q145_14 rfl rfl ?_
    refine a_iload_n (i := 1) q145_15 rfl rfl ?_
    refine a_cv2 q145_16 rfl rfl ⟨rfl, rfl⟩ rfl ?_
    refine c_X10_at (by omega) hc ?_
    refine ck_r ?_
    refine a_sipush (v := (-10000)) q145_19 (by decide) ?_
    refine a_icmp_ne (tgt := 29) q145_22 (by decide) (fun zc22 => ?_) (fun zc22 => ?_)
    · skip
      refine a_iconst (v := 1) q145_29 (by decide) ?_
      refine a_iadd q145_30 ?_
      refine a_istore_n (i := 2) (lv' := [(0, _), (1, _), (2, _), (3, _)]) q145_31 rfl rfl rfl ?_
      refine a_iinc (v := nI (r + 1)) (lv' := [(0, _), (1, _), (2, _), (3, _)]) q145_32 rfl rfl (nI_1 (r)) rfl ?_
      refine a_goto (tgt := 4) q145_35 (by decide) ?_
      have zi := ih (X := X) (c := c) (r := r + 1) hn hn40 hc (show r + 1 + m = n by omega) hq
      rw [show stCnt (mv A c) (r + 1) = stCnt (mv A c) r + 1 from if_neg zc22] at zi
      exact zi
    · skip
      refine a_iconst (v := 0) q145_25 (by decide) ?_
      refine a_goto (tgt := 30) q145_26 (by decide) ?_
      refine a_iadd q145_30 ?_
      refine a_istore_n (i := 2) (lv' := [(0, _), (1, _), (2, _), (3, _)]) q145_31 rfl rfl rfl ?_
      refine a_iinc (v := nI (r + 1)) (lv' := [(0, _), (1, _), (2, _), (3, _)]) q145_32 rfl rfl (nI_1 (r)) rfl ?_
      refine a_goto (tgt := 4) q145_35 (by decide) ?_
      have zi := ih (X := X) (c := c) (r := r + 1) hn hn40 hc (show r + 1 + m = n by omega) hq
      rw [show stCnt (mv A c) (r + 1) = stCnt (mv A c) r + 0 from (if_pos zc22).trans (Int32.add_zero _).symm] at zi
      exact zi

theorem c_X10_many {X : XS} {I : Nat → Int32} {A : Nat → Nat → Int32} {L : Nat → Nat → Int64} {O : Nat → UInt64} {Q : AO → AH → Prop} {c : Nat} {n : Nat} (hn : I 20 = nI n) (hn40 : n ≤ 40) (hc : c < 6) (hq : Q (.inl (some (.int (stCnt (mv A c) n)))) (hp I A L O)) : Call X 145 [.ref 21, .int (nI c)] (hp I A L O) Q := by
  refine call_of (by decide) rfl rfl ?_
  refine a_iconst (v := 0) q145_0 (by decide) ?_
  refine a_istore_n (i := 2) (lv' := [(0, _), (1, _), (2, _)]) q145_1 rfl rfl rfl ?_
  refine a_iconst (v := 0) q145_2 (by decide) ?_
  refine a_istore_n (i := 3) (lv' := [(0, _), (1, _), (2, _), (3, _)]) q145_3 rfl rfl rfl ?_
  exact l_many n (r := 0) hn hn40 hc (Nat.zero_add n) hq

theorem l_msum (m : Nat) : ∀ {X : XS} {I : Nat → Int32} {A : Nat → Nat → Int32} {L : Nat → Nat → Int64} {O : Nat → UInt64} {Q : AO → AH → Prop} {c r n : Nat} (hn : I 20 = nI n) (hn40 : n ≤ 40) (hc : c < 6) (hm : r + m = n) (hq : Q (.inl (some (.long (stSum (mv A c) n)))) (hp I A L O)), AW X 148 5 [(0, .ref 21), (1, .int (nI c)), (2, .long (stSum (mv A c) r)), (4, .int (nI r))] [] (hp I A L O) 0 0 Q := by
  induction m with
  | zero =>
    intro X I A L O Q c r n hn hn40 hc hm hq
    refine a_iload q148_5 rfl ?_
    refine a_aload_n (i := 0) q148_7 rfl rfl ?_
    refine a_getfield q148_8 rfl rfl ?_
    refine AW.ti hn ?_
    refine a_icmp_ge (tgt := 48) q148_11 (by decide) (fun zc11 => ?_) (fun zc11 => absurd (nI_le (show n ≤ r by omega) (by omega)) zc11)
    refine a_lload_n (i := 2) q148_48 rfl rfl ?_
    refine a_lreturn q148_49 rfl ?_
    have zr : n = r := by omega
    subst zr
    exact hq
  | succ m ih =>
    intro X I A L O Q c r n hn hn40 hc hm hq
    refine a_iload q148_5 rfl ?_
    refine a_aload_n (i := 0) q148_7 rfl rfl ?_
    refine a_getfield q148_8 rfl rfl ?_
    refine AW.ti hn ?_
    refine a_icmp_ge (tgt := 48) q148_11 (by decide) (fun zc11 => absurd zc11 (nI_ge (show r < n by omega) (by omega))) (fun zc11 => ?_)
    refine a_lload_n (i := 2) q148_14 rfl rfl ?_
    refine a_aload_n (i := 0) q148_15 rfl rfl ?_
    refine a_iload q148_16 rfl ?_
    refine a_iload_n (i := 1) q148_18 rfl rfl ?_
    refine a_cv2 q148_19 rfl rfl ⟨rfl, rfl⟩ rfl ?_
    refine c_X10_at (by omega) hc ?_
    refine ck_r ?_
    refine a_sipush (v := (-10000)) q148_22 (by decide) ?_
    refine a_icmp_ne (tgt := 32) q148_25 (by decide) (fun zc25 => ?_) (fun zc25 => ?_)
    · skip
      refine a_aload_n (i := 0) q148_32 rfl rfl ?_
      refine a_iload q148_33 rfl ?_
      refine a_iload_n (i := 1) q148_35 rfl rfl ?_
      refine a_cv2 q148_36 rfl rfl ⟨rfl, rfl⟩ rfl ?_
      refine c_X10_at (by omega) hc ?_
      refine ck_r ?_
      refine a_i2l q148_39 ?_
      refine a_ladd q148_40 ?_
      refine a_lstore_n (i := 2) (lv' := [(0, _), (1, _), (2, _), (4, _)]) q148_41 rfl rfl rfl ?_
      refine a_iinc (v := nI (r + 1)) (lv' := [(0, _), (1, _), (2, _), (4, _)]) q148_42 rfl rfl (nI_1 (r)) rfl ?_
      refine a_goto (tgt := 5) q148_45 (by decide) ?_
      have zi := ih (X := X) (c := c) (r := r + 1) hn hn40 hc (show r + 1 + m = n by omega) hq
      rw [show stSum (mv A c) (r + 1) = stSum (mv A c) r + (mv A c r).toInt64 from if_neg zc25] at zi
      exact zi
    · skip
      refine a_lconst (v := 0) q148_28 (by decide) ?_
      refine a_goto (tgt := 40) q148_29 (by decide) ?_
      refine a_ladd q148_40 ?_
      refine a_lstore_n (i := 2) (lv' := [(0, _), (1, _), (2, _), (4, _)]) q148_41 rfl rfl rfl ?_
      refine a_iinc (v := nI (r + 1)) (lv' := [(0, _), (1, _), (2, _), (4, _)]) q148_42 rfl rfl (nI_1 (r)) rfl ?_
      refine a_goto (tgt := 5) q148_45 (by decide) ?_
      have zi := ih (X := X) (c := c) (r := r + 1) hn hn40 hc (show r + 1 + m = n by omega) hq
      rw [show stSum (mv A c) (r + 1) = stSum (mv A c) r + 0 from (if_pos zc25).trans (Int64.add_zero _).symm] at zi
      exact zi

theorem c_X10_sum {X : XS} {I : Nat → Int32} {A : Nat → Nat → Int32} {L : Nat → Nat → Int64} {O : Nat → UInt64} {Q : AO → AH → Prop} {c : Nat} {n : Nat} (hn : I 20 = nI n) (hn40 : n ≤ 40) (hc : c < 6) (hq : Q (.inl (some (.long (stSum (mv A c) n)))) (hp I A L O)) : Call X 148 [.ref 21, .int (nI c)] (hp I A L O) Q := by
  refine call_of (by decide) rfl rfl ?_
  refine a_lconst (v := 0) q148_0 (by decide) ?_
  refine a_lstore_n (i := 2) (lv' := [(0, _), (1, _), (2, _)]) q148_1 rfl rfl rfl ?_
  refine a_iconst (v := 0) q148_2 (by decide) ?_
  refine a_istore (i := 4) (lv' := [(0, _), (1, _), (2, _), (4, _)]) q148_3 rfl rfl ?_
  exact l_msum n (r := 0) hn hn40 hc (Nat.zero_add n) hq

theorem stRis_01 (f : Nat → Int32) : ∀ n, stRis f n = 0 ∨ stRis f n = 1
  | 0 => Or.inr rfl
  | n + 1 => by
    rw [stRis]; split
    · exact stRis_01 f n
    · exact b2i_01
theorem stRis_and (f : Nat → Int32) (r : Nat) : stRis f r &&& b2i (f r = -10000 ∨ stLast f r < f r) = stRis f (r + 1) := by
  rw [show stRis f (r + 1) = (if f r = -10000 then stRis f r else b2i (¬ stRis f r = 0 ∧ stLast f r < f r)) from rfl]
  by_cases zm : f r = -10000
  · rw [if_pos zm, b2i_t (Or.inl zm)]
    rcases stRis_01 f r with zz | zz <;> rw [zz] <;> rfl
  · rw [if_neg zm]
    by_cases zl : stLast f r < f r
    · rw [b2i_t (Or.inr zl)]
      rcases stRis_01 f r with zz | zz
      · rw [zz, b2i_f (fun zx => zx.1 rfl)]; rfl
      · rw [zz, b2i_t ⟨by decide, zl⟩]; rfl
    · rw [b2i_f (fun zx => zx.elim zm zl), b2i_f (fun zx => zl zx.2)]
      rcases stRis_01 f r with zz | zz <;> rw [zz] <;> rfl
theorem l_mrises (m : Nat) : ∀ {X : XS} {I : Nat → Int32} {A : Nat → Nat → Int32} {L : Nat → Nat → Int64} {O : Nat → UInt64} {Q : AO → AH → Prop} {c r n : Nat} (hn : I 20 = nI n) (hn40 : n ≤ 40) (hc : c < 6) (hm : r + m = n) (hq : Q (.inl (some (.int (stRis (mv A c) n)))) (hp I A L O)), AW X 152 9 [(0, .ref 21), (1, .int (nI c)), (2, .int (stRis (mv A c) r)), (3, .int (stLast (mv A c) r)), (4, .int (nI r))] [] (hp I A L O) 0 0 Q := by
  induction m with
  | zero =>
    intro X I A L O Q c r n hn hn40 hc hm hq
    refine a_iload q152_9 rfl ?_
    refine a_aload_n (i := 0) q152_11 rfl rfl ?_
    refine a_getfield q152_12 rfl rfl ?_
    refine AW.ti hn ?_
    refine a_icmp_ge (tgt := 70) q152_15 (by decide) (fun zc15 => ?_) (fun zc15 => absurd (nI_le (show n ≤ r by omega) (by omega)) zc15)
    refine a_iload_n (i := 2) q152_70 rfl rfl ?_
    refine a_ireturn q152_71 (nr_bool rfl (stRis_01 _ _)) ?_
    have zr : n = r := by omega
    subst zr
    exact hq
  | succ m ih =>
    intro X I A L O Q c r n hn hn40 hc hm hq
    refine a_iload q152_9 rfl ?_
    refine a_aload_n (i := 0) q152_11 rfl rfl ?_
    refine a_getfield q152_12 rfl rfl ?_
    refine AW.ti hn ?_
    refine a_icmp_ge (tgt := 70) q152_15 (by decide) (fun zc15 => absurd zc15 (nI_ge (show r < n by omega) (by omega))) (fun zc15 => ?_)
    refine a_aload_n (i := 0) q152_18 rfl rfl ?_
    refine a_iload q152_19 rfl ?_
    refine a_iload_n (i := 1) q152_21 rfl rfl ?_
    refine a_cv2 q152_22 rfl rfl ⟨rfl, rfl⟩ rfl ?_
    refine c_X10_at (by omega) hc ?_
    refine ck_r ?_
    refine a_istore (i := 5) (lv' := [(0, _), (1, _), (2, _), (3, _), (4, _), (5, _)]) q152_25 rfl rfl ?_
    refine a_iload_n (i := 2) q152_27 rfl rfl ?_
    refine AW.cut 47 (b2i (mv A c r = -10000 ∨ stLast (mv A c) r < mv A c r)) (fun zk47 => ?_) ?_
    · skip
      refine a_iload q152_28 rfl ?_
      refine a_sipush (v := (-10000)) q152_30 (by decide) ?_
      refine a_icmp_eq (tgt := 42) q152_33 (by decide) (fun zc33 => ?_) (fun zc33 => ?_)
      · skip
        refine a_iconst (v := 1) q152_42 (by decide) ?_
        refine a_goto (tgt := 47) q152_43 (by decide) ?_
        exact cutv zk47 (b2i_t (Or.inl zc33))
      · skip
        refine a_iload q152_36 rfl ?_
        refine a_iload_n (i := 3) q152_38 rfl rfl ?_
        refine a_icmp_le (tgt := 46) q152_39 (by decide) (fun zc39 => ?_) (fun zc39 => ?_)
        · skip
          refine a_iconst (v := 0) q152_46 (by decide) ?_
          exact cutv zk47 (b2i_f (fun zz => zz.elim zc33 (i_nlt.mpr zc39)))
        · skip
          refine a_iconst (v := 1) q152_42 (by decide) ?_
          refine a_goto (tgt := 47) q152_43 (by decide) ?_
          exact cutv zk47 (b2i_t (Or.inr (i_nle.mp zc39)))
    refine a_iand q152_47 ?_
    refine AW.ti (stRis_and (mv A c) r) ?_
    refine a_istore_n (i := 2) (lv' := [(0, _), (1, _), (2, _), (3, _), (4, _), (5, _)]) q152_48 rfl rfl rfl ?_
    refine AW.cut 63 (stLast (mv A c) (r + 1)) (fun zk63 => ?_) ?_
    · skip
      refine a_iload q152_49 rfl ?_
      refine a_sipush (v := (-10000)) q152_51 (by decide) ?_
      refine a_icmp_ne (tgt := 61) q152_54 (by decide) (fun zc54 => ?_) (fun zc54 => ?_)
      · skip
        refine a_iload q152_61 rfl ?_
        exact cutv zk63 (if_neg zc54)
      · skip
        refine a_iload_n (i := 3) q152_57 rfl rfl ?_
        refine a_goto (tgt := 63) q152_58 (by decide) ?_
        exact cutv zk63 (if_pos zc54)
    refine a_istore_n (i := 3) (lv' := [(0, _), (1, _), (2, _), (3, _), (4, _), (5, _)]) q152_63 rfl rfl rfl ?_
    refine a_iinc (v := nI (r + 1)) (lv' := [(0, _), (1, _), (2, _), (3, _), (4, _), (5, _)]) q152_64 rfl rfl (nI_1 (r)) rfl ?_
    refine a_goto (tgt := 9) q152_67 (by decide) ?_
    refine AW.pop_less (x := (5, _)) (lv' := [(0, _), (1, _), (2, _), (3, _), (4, _)]) ?_
    exact ih (X := X) (c := c) (r := r + 1) hn hn40 hc (show r + 1 + m = n by omega) hq

theorem c_X10_rises {X : XS} {I : Nat → Int32} {A : Nat → Nat → Int32} {L : Nat → Nat → Int64} {O : Nat → UInt64} {Q : AO → AH → Prop} {c : Nat} {n : Nat} (hn : I 20 = nI n) (hn40 : n ≤ 40) (hc : c < 6) (hq : Q (.inl (some (.int (stRis (mv A c) n)))) (hp I A L O)) : Call X 152 [.ref 21, .int (nI c)] (hp I A L O) Q := by
  refine call_of (by decide) rfl rfl ?_
  refine a_iconst (v := 1) q152_0 (by decide) ?_
  refine a_istore_n (i := 2) (lv' := [(0, _), (1, _), (2, _)]) q152_1 rfl rfl rfl ?_
  refine a_sipush (v := (-10000)) q152_2 (by decide) ?_
  refine a_istore_n (i := 3) (lv' := [(0, _), (1, _), (2, _), (3, _)]) q152_5 rfl rfl rfl ?_
  refine a_iconst (v := 0) q152_6 (by decide) ?_
  refine a_istore (i := 4) (lv' := [(0, _), (1, _), (2, _), (3, _), (4, _)]) q152_7 rfl rfl ?_
  exact l_mrises n (r := 0) hn hn40 hc (Nat.zero_add n) hq

abbrev isNw (f : Nat → Int32) (r q : Nat) : Prop := ¬ f r = -10000 ∧ ∀ e, e < q → ¬ f e = f r
theorem isNw_s (f : Nat → Int32) (r q : Nat) : isNw f r (q + 1) ↔ isNw f r q ∧ ¬ f q = f r := by
  constructor
  · intro h
    exact ⟨⟨h.1, fun e he => h.2 e (by omega)⟩, h.2 q (by omega)⟩
  · intro h
    refine ⟨h.1.1, fun e he => ?_⟩
    by_cases zz : e = q
    · rw [zz]; exact h.2
    · exact h.1.2 e (by omega)
theorem stDif_y {f : Nat → Int32} {r : Nat} (h : isNw f r r) : stDif f (r + 1) = stDif f r + 1 := by
  rw [show stDif f (r + 1) = (if f r = -10000 then stDif f r else stDif f r + b2i (isNew f r)) from rfl, if_neg h.1, b2i_t (p := isNew f r) h.2]
theorem stDif_n {f : Nat → Int32} {r : Nat} (h : ¬ isNw f r r) : stDif f (r + 1) = stDif f r + 0 := by
  rw [show stDif f (r + 1) = (if f r = -10000 then stDif f r else stDif f r + b2i (isNew f r)) from rfl]
  by_cases zm : f r = -10000
  · rw [if_pos zm]; exact (Int32.add_zero _).symm
  · rw [if_neg zm, b2i_f (p := isNew f r) (fun zz => h ⟨zm, zz⟩)]
theorem l_unlikeI (m : Nat) : ∀ {X : XS} {I : Nat → Int32} {A : Nat → Nat → Int32} {L : Nat → Nat → Int64} {O : Nat → UInt64} {Q : AO → AH → Prop} {c r n q : Nat} {u : Int32} (hn40 : n ≤ 40) (hr : r < n) (hc : c < 6) (hm : q + m = r) (hk : AW X 146 72 [(0, .ref 21), (1, .int (nI c)), (2, .int u), (3, .int (nI r)), (4, .int (b2i (isNw (mv A c) r r))), (5, .int (nI r))] [] (hp I A L O) 0 0 Q), AW X 146 34 [(0, .ref 21), (1, .int (nI c)), (2, .int u), (3, .int (nI r)), (4, .int (b2i (isNw (mv A c) r q))), (5, .int (nI q))] [] (hp I A L O) 0 0 Q := by
  induction m with
  | zero =>
    intro X I A L O Q c r n q u hn40 hr hc hm hk
    refine a_iload q146_34 rfl ?_
    refine a_iload_n (i := 3) q146_36 rfl rfl ?_
    refine a_icmp_ge (tgt := 72) q146_37 (by decide) (fun zc37 => ?_) (fun zc37 => absurd (nI_le (show r ≤ q by omega) (by omega)) zc37)
    have zr : r = q := by omega
    subst zr
    exact hk
  | succ m ih =>
    intro X I A L O Q c r n q u hn40 hr hc hm hk
    refine a_iload q146_34 rfl ?_
    refine a_iload_n (i := 3) q146_36 rfl rfl ?_
    refine a_icmp_ge (tgt := 72) q146_37 (by decide) (fun zc37 => absurd zc37 (nI_ge (show q < r by omega) (by omega))) (fun zc37 => ?_)
    refine a_iload q146_40 rfl ?_
    refine AW.cut 63 (b2i (¬ mv A c q = mv A c r)) (fun zk63 => ?_) ?_
    · skip
      refine a_aload_n (i := 0) q146_42 rfl rfl ?_
      refine a_iload q146_43 rfl ?_
      refine a_iload_n (i := 1) q146_45 rfl rfl ?_
      refine a_cv2 q146_46 rfl rfl ⟨rfl, rfl⟩ rfl ?_
      refine c_X10_at (by omega) hc ?_
      refine ck_r ?_
      refine a_aload_n (i := 0) q146_49 rfl rfl ?_
      refine a_iload_n (i := 3) q146_50 rfl rfl ?_
      refine a_iload_n (i := 1) q146_51 rfl rfl ?_
      refine a_cv2 q146_52 rfl rfl ⟨rfl, rfl⟩ rfl ?_
      refine c_X10_at (by omega) hc ?_
      refine ck_r ?_
      refine a_icmp_eq (tgt := 62) q146_55 (by decide) (fun zc55 => ?_) (fun zc55 => ?_)
      · skip
        refine a_iconst (v := 0) q146_62 (by decide) ?_
        exact cutv zk63 (b2i_f (fun zz => zz zc55))
      · skip
        refine a_iconst (v := 1) q146_58 (by decide) ?_
        refine a_goto (tgt := 63) q146_59 (by decide) ?_
        exact cutv zk63 (b2i_t zc55)
    refine a_iand q146_63 ?_
    refine AW.ti (b2i_andI (isNw_s (mv A c) r q)) ?_
    refine a_istore (i := 4) (lv' := [(0, _), (1, _), (2, _), (3, _), (4, _), (5, _)]) q146_64 rfl rfl ?_
    refine a_iinc (v := nI (q + 1)) (lv' := [(0, _), (1, _), (2, _), (3, _), (4, _), (5, _)]) q146_66 rfl rfl (nI_1 (q)) rfl ?_
    refine a_goto (tgt := 34) q146_69 (by decide) ?_
    exact ih hn40 hr hc (show q + 1 + m = r by omega) hk

theorem l_unlike (m : Nat) : ∀ {X : XS} {I : Nat → Int32} {A : Nat → Nat → Int32} {L : Nat → Nat → Int64} {O : Nat → UInt64} {Q : AO → AH → Prop} {c r n : Nat} (hn : I 20 = nI n) (hn40 : n ≤ 40) (hc : c < 6) (hm : r + m = n) (hq : Q (.inl (some (.int (stDif (mv A c) n)))) (hp I A L O)), AW X 146 4 [(0, .ref 21), (1, .int (nI c)), (2, .int (stDif (mv A c) r)), (3, .int (nI r))] [] (hp I A L O) 0 0 Q := by
  induction m with
  | zero =>
    intro X I A L O Q c r n hn hn40 hc hm hq
    refine a_iload_n (i := 3) q146_4 rfl rfl ?_
    refine a_aload_n (i := 0) q146_5 rfl rfl ?_
    refine a_getfield q146_6 rfl rfl ?_
    refine AW.ti hn ?_
    refine a_icmp_ge (tgt := 91) q146_9 (by decide) (fun zc9 => ?_) (fun zc9 => absurd (nI_le (show n ≤ r by omega) (by omega)) zc9)
    refine a_iload_n (i := 2) q146_91 rfl rfl ?_
    refine a_ireturn q146_92 (nr_int rfl _) ?_
    have zr : n = r := by omega
    subst zr
    exact hq
  | succ m ih =>
    intro X I A L O Q c r n hn hn40 hc hm hq
    refine a_iload_n (i := 3) q146_4 rfl rfl ?_
    refine a_aload_n (i := 0) q146_5 rfl rfl ?_
    refine a_getfield q146_6 rfl rfl ?_
    refine AW.ti hn ?_
    refine a_icmp_ge (tgt := 91) q146_9 (by decide) (fun zc9 => absurd zc9 (nI_ge (show r < n by omega) (by omega))) (fun zc9 => ?_)
    refine AW.cut 29 (b2i (isNw (mv A c) r 0)) (fun zk29 => ?_) ?_
    · skip
      refine a_aload_n (i := 0) q146_12 rfl rfl ?_
      refine a_iload_n (i := 3) q146_13 rfl rfl ?_
      refine a_iload_n (i := 1) q146_14 rfl rfl ?_
      refine a_cv2 q146_15 rfl rfl ⟨rfl, rfl⟩ rfl ?_
      refine c_X10_at (by omega) hc ?_
      refine ck_r ?_
      refine a_sipush (v := (-10000)) q146_18 (by decide) ?_
      refine a_icmp_eq (tgt := 28) q146_21 (by decide) (fun zc21 => ?_) (fun zc21 => ?_)
      · skip
        refine a_iconst (v := 0) q146_28 (by decide) ?_
        exact cutv zk29 (b2i_f (fun zz => zz.1 zc21))
      · skip
        refine a_iconst (v := 1) q146_24 (by decide) ?_
        refine a_goto (tgt := 29) q146_25 (by decide) ?_
        exact cutv zk29 (b2i_t ⟨zc21, fun _ zz => absurd zz (Nat.not_lt_zero _)⟩)
    refine a_istore (i := 4) (lv' := [(0, _), (1, _), (2, _), (3, _), (4, _)]) q146_29 rfl rfl ?_
    refine a_iconst (v := 0) q146_31 (by decide) ?_
    refine a_istore (i := 5) (lv' := [(0, _), (1, _), (2, _), (3, _), (4, _), (5, _)]) q146_32 rfl rfl ?_
    refine l_unlikeI r (q := 0) hn40 (by omega) hc (Nat.zero_add r) ?_
    refine a_iload_n (i := 2) q146_72 rfl rfl ?_
    refine a_iload q146_73 rfl ?_
    refine a_if_eq (tgt := 82) q146_75 (by decide) (fun zc75 => ?_) (fun zc75 => ?_)
    · skip
      refine a_iconst (v := 0) q146_82 (by decide) ?_
      refine a_iadd q146_83 ?_
      refine a_istore_n (i := 2) (lv' := [(0, _), (1, _), (2, _), (3, _), (4, _), (5, _)]) q146_84 rfl rfl rfl ?_
      refine a_iinc (v := nI (r + 1)) (lv' := [(0, _), (1, _), (2, _), (3, _), (4, _), (5, _)]) q146_85 rfl rfl (nI_1 (r)) rfl ?_
      refine a_goto (tgt := 4) q146_88 (by decide) ?_
      refine AW.pop_less (x := (5, _)) (lv' := [(0, _), (1, _), (2, _), (3, _), (4, _)]) ?_
      refine AW.pop_less (x := (4, _)) (lv' := [(0, _), (1, _), (2, _), (3, _)]) ?_
      have zi := ih (X := X) (c := c) (r := r + 1) hn hn40 hc (show r + 1 + m = n by omega) hq
      rw [stDif_n (b2i_z.mp zc75)] at zi
      exact zi
    · skip
      refine a_iconst (v := 1) q146_78 (by decide) ?_
      refine a_goto (tgt := 83) q146_79 (by decide) ?_
      refine a_iadd q146_83 ?_
      refine a_istore_n (i := 2) (lv' := [(0, _), (1, _), (2, _), (3, _), (4, _), (5, _)]) q146_84 rfl rfl rfl ?_
      refine a_iinc (v := nI (r + 1)) (lv' := [(0, _), (1, _), (2, _), (3, _), (4, _), (5, _)]) q146_85 rfl rfl (nI_1 (r)) rfl ?_
      refine a_goto (tgt := 4) q146_88 (by decide) ?_
      refine AW.pop_less (x := (5, _)) (lv' := [(0, _), (1, _), (2, _), (3, _), (4, _)]) ?_
      refine AW.pop_less (x := (4, _)) (lv' := [(0, _), (1, _), (2, _), (3, _)]) ?_
      have zi := ih (X := X) (c := c) (r := r + 1) hn hn40 hc (show r + 1 + m = n by omega) hq
      rw [stDif_y (b2i_nz.mp zc75)] at zi
      exact zi

theorem c_X10_unlike {X : XS} {I : Nat → Int32} {A : Nat → Nat → Int32} {L : Nat → Nat → Int64} {O : Nat → UInt64} {Q : AO → AH → Prop} {c : Nat} {n : Nat} (hn : I 20 = nI n) (hn40 : n ≤ 40) (hc : c < 6) (hq : Q (.inl (some (.int (stDif (mv A c) n)))) (hp I A L O)) : Call X 146 [.ref 21, .int (nI c)] (hp I A L O) Q := by
  refine call_of (by decide) rfl rfl ?_
  refine a_iconst (v := 0) q146_0 (by decide) ?_
  refine a_istore_n (i := 2) (lv' := [(0, _), (1, _), (2, _)]) q146_1 rfl rfl rfl ?_
  refine a_iconst (v := 0) q146_2 (by decide) ?_
  refine a_istore_n (i := 3) (lv' := [(0, _), (1, _), (2, _), (3, _)]) q146_3 rfl rfl rfl ?_
  exact l_unlike n (r := 0) hn hn40 hc (Nat.zero_add n) hq

def m_kind (n u f r : Int32) : Int32 := if u < 2 then (if n = 0 then 0 else 1) else if 0 < f then f else if 4 ≤ n ∧ ¬ r = 0 then 2 else if u ≤ 6 ∧ 2 * u ≤ n then 3 else 4
def mkd (A : Nat → Nat → Int32) (n c : Nat) : Int32 := m_kind (stCnt (mv A c) n) (stDif (mv A c) n) (A 23 c) (stRis (mv A c) n)
theorem c_X10_kindBy {X : XS} {I : Nat → Int32} {A : Nat → Nat → Int32} {L : Nat → Nat → Int64} {O : Nat → UInt64} {Q : AO → AH → Prop} {c : Nat} {n : Nat} (hn : I 20 = nI n) (hn40 : n ≤ 40) (hc : c < 6) (hq : Q (.inl (some (.int (mkd A n c)))) (hp I A L O)) : Call X 153 [.ref 21, .int (nI c)] (hp I A L O) Q := by
  refine call_of (by decide) rfl rfl ?_
  refine a_aload_n (i := 0) q153_0 rfl rfl ?_
  refine a_iload_n (i := 1) q153_1 rfl rfl ?_
  refine a_cv1 q153_2 rfl rfl ⟨rfl, rfl⟩ rfl ?_
  refine c_X10_many hn hn40 hc ?_
  refine ck_r ?_
  refine a_istore_n (i := 2) (lv' := [(0, _), (1, _), (2, _)]) q153_5 rfl rfl rfl ?_
  refine a_aload_n (i := 0) q153_6 rfl rfl ?_
  refine a_iload_n (i := 1) q153_7 rfl rfl ?_
  refine a_cv1 q153_8 rfl rfl ⟨rfl, rfl⟩ rfl ?_
  refine c_X10_unlike hn hn40 hc ?_
  refine ck_r ?_
  refine a_istore_n (i := 3) (lv' := [(0, _), (1, _), (2, _), (3, _)]) q153_11 rfl rfl rfl ?_
  refine a_iload_n (i := 3) q153_12 rfl rfl ?_
  refine a_iconst (v := 2) q153_13 (by decide) ?_
  refine a_icmp_ge (tgt := 27) q153_14 (by decide) (fun zc14 => ?_) (fun zc14 => ?_)
  · skip
    refine a_aload_n (i := 0) q153_27 rfl rfl ?_
    refine a_getfield q153_28 rfl rfl ?_
    refine a_iload_n (i := 1) q153_31 rfl rfl ?_
    refine a_iald' (j := c) q153_32 rfl rfl hc (by decide) ?_
    refine a_if_le (tgt := 45) q153_33 (by decide) (fun zc33 => ?_) (fun zc33 => ?_)
    · skip
      refine a_iload_n (i := 2) q153_45 rfl rfl ?_
      refine a_iconst (v := 4) q153_46 (by decide) ?_
      refine a_icmp_lt (tgt := 62) q153_47 (by decide) (fun zc47 => ?_) (fun zc47 => ?_)
      · skip
        refine a_iload_n (i := 3) q153_62 rfl rfl ?_
        refine a_bipush (v := 6) q153_63 (by decide) ?_
        refine a_icmp_gt (tgt := 79) q153_65 (by decide) (fun zc65 => ?_) (fun zc65 => ?_)
        · skip
          refine a_iconst (v := 4) q153_79 (by decide) ?_
          refine a_ireturn q153_80 (nr_int rfl _) ?_
          exact lfi hq (by simp only [mkd, m_kind]; rw [if_neg (i_nlt.mpr zc14), if_neg (i_nlt.mpr zc33), if_neg (fun zz => absurd zz.1 (i_nle.mpr zc47)), if_neg (fun zz => absurd zz.1 (i_nle.mpr zc65))])
        · skip
          refine a_iload_n (i := 2) q153_68 rfl rfl ?_
          refine a_iconst (v := 2) q153_69 (by decide) ?_
          refine a_iload_n (i := 3) q153_70 rfl rfl ?_
          refine a_imul q153_71 ?_
          refine a_icmp_lt (tgt := 79) q153_72 (by decide) (fun zc72 => ?_) (fun zc72 => ?_)
          · skip
            refine a_iconst (v := 4) q153_79 (by decide) ?_
            refine a_ireturn q153_80 (nr_int rfl _) ?_
            exact lfi hq (by simp only [mkd, m_kind]; rw [if_neg (i_nlt.mpr zc14), if_neg (i_nlt.mpr zc33), if_neg (fun zz => absurd zz.1 (i_nle.mpr zc47)), if_neg (fun zz => absurd zz.2 (i_nle.mpr zc72))])
          · skip
            refine a_iconst (v := 3) q153_75 (by decide) ?_
            refine a_goto (tgt := 80) q153_76 (by decide) ?_
            refine a_ireturn q153_80 (nr_int rfl _) ?_
            exact lfi hq (by simp only [mkd, m_kind]; rw [if_neg (i_nlt.mpr zc14), if_neg (i_nlt.mpr zc33), if_neg (fun zz => absurd zz.1 (i_nle.mpr zc47)), if_pos ⟨i_nlt.mp zc65, i_nlt.mp zc72⟩])
      · skip
        refine a_aload_n (i := 0) q153_50 rfl rfl ?_
        refine a_iload_n (i := 1) q153_51 rfl rfl ?_
        refine a_cv1 q153_52 rfl rfl ⟨rfl, rfl⟩ rfl ?_
        refine c_X10_rises hn hn40 hc ?_
        refine ck_r ?_
        refine a_if_eq (tgt := 62) q153_55 (by decide) (fun zc55 => ?_) (fun zc55 => ?_)
        · skip
          refine a_iload_n (i := 3) q153_62 rfl rfl ?_
          refine a_bipush (v := 6) q153_63 (by decide) ?_
          refine a_icmp_gt (tgt := 79) q153_65 (by decide) (fun zc65 => ?_) (fun zc65 => ?_)
          · skip
            refine a_iconst (v := 4) q153_79 (by decide) ?_
            refine a_ireturn q153_80 (nr_int rfl _) ?_
            exact lfi hq (by simp only [mkd, m_kind]; rw [if_neg (i_nlt.mpr zc14), if_neg (i_nlt.mpr zc33), if_neg (fun zz => zz.2 zc55), if_neg (fun zz => absurd zz.1 (i_nle.mpr zc65))])
          · skip
            refine a_iload_n (i := 2) q153_68 rfl rfl ?_
            refine a_iconst (v := 2) q153_69 (by decide) ?_
            refine a_iload_n (i := 3) q153_70 rfl rfl ?_
            refine a_imul q153_71 ?_
            refine a_icmp_lt (tgt := 79) q153_72 (by decide) (fun zc72 => ?_) (fun zc72 => ?_)
            · skip
              refine a_iconst (v := 4) q153_79 (by decide) ?_
              refine a_ireturn q153_80 (nr_int rfl _) ?_
              exact lfi hq (by simp only [mkd, m_kind]; rw [if_neg (i_nlt.mpr zc14), if_neg (i_nlt.mpr zc33), if_neg (fun zz => zz.2 zc55), if_neg (fun zz => absurd zz.2 (i_nle.mpr zc72))])
            · skip
              refine a_iconst (v := 3) q153_75 (by decide) ?_
              refine a_goto (tgt := 80) q153_76 (by decide) ?_
              refine a_ireturn q153_80 (nr_int rfl _) ?_
              exact lfi hq (by simp only [mkd, m_kind]; rw [if_neg (i_nlt.mpr zc14), if_neg (i_nlt.mpr zc33), if_neg (fun zz => zz.2 zc55), if_pos ⟨i_nlt.mp zc65, i_nlt.mp zc72⟩])
        · skip
          refine a_iconst (v := 2) q153_58 (by decide) ?_
          refine a_goto (tgt := 80) q153_59 (by decide) ?_
          refine a_ireturn q153_80 (nr_int rfl _) ?_
          exact lfi hq (by simp only [mkd, m_kind]; rw [if_neg (i_nlt.mpr zc14), if_neg (i_nlt.mpr zc33), if_pos ⟨i_nlt.mp zc47, zc55⟩])
    · skip
      refine a_aload_n (i := 0) q153_36 rfl rfl ?_
      refine a_getfield q153_37 rfl rfl ?_
      refine a_iload_n (i := 1) q153_40 rfl rfl ?_
      refine a_iald' (j := c) q153_41 rfl rfl hc (by decide) ?_
      refine a_goto (tgt := 80) q153_42 (by decide) ?_
      refine a_ireturn q153_80 (nr_int rfl _) ?_
      exact lfi hq (by simp only [mkd, m_kind]; rw [if_neg (i_nlt.mpr zc14), if_pos (i_nle.mp zc33)])
  · skip
    refine a_iload_n (i := 2) q153_17 rfl rfl ?_
    refine a_if_ne (tgt := 25) q153_18 (by decide) (fun zc18 => ?_) (fun zc18 => ?_)
    · skip
      refine a_iconst (v := 1) q153_25 (by decide) ?_
      refine a_ireturn q153_26 (nr_int rfl _) ?_
      exact lfi hq (by simp only [mkd, m_kind]; rw [if_pos (i_nle.mp zc14), if_neg zc18])
    · skip
      refine a_iconst (v := 0) q153_21 (by decide) ?_
      refine a_goto (tgt := 26) q153_22 (by decide) ?_
      refine a_ireturn q153_26 (nr_int rfl _) ?_
      exact lfi hq (by simp only [mkd, m_kind]; rw [if_pos (i_nle.mp zc14), if_pos zc18])
