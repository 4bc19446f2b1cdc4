/-! the law's smallest methods -/
theorem in_of {x : Int32} {m : Nat} (hm0 : 0 < m) (hm : m < 2 ^ 31) : ∃ j, j < m ∧ (x &&& 2147483647) - (x &&& 2147483647) / nI m * nI m = nI j := by
  obtain ⟨a, ha, e⟩ : ∃ a : Nat, a < 2 ^ 31 ∧ (x &&& 2147483647) = nI a := by
    refine nI_of (fun h => ?_)
    have e : x = nI x.toBitVec.toNat := by
      show x = Int32.ofNat _
      rw [← Int32.toInt_inj]
      show x.toBitVec.toInt = (BitVec.ofNat 32 x.toBitVec.toNat).toInt
      rw [BitVec.ofNat_toNat, BitVec.setWidth_eq]
    rw [e, show (2147483647 : Int32) = nI (2 ^ 31 - 1) from rfl, fa_mask] at h
    exact nI_pos (Nat.mod_lt _ (by decide)) h
  rw [e, pk_rem ha hm0 hm]
  exact ⟨a % m, Nat.mod_lt _ hm0, rfl⟩
theorem c_L_cell {X : XS} {h : AH} {Q : AO → AH → Prop} (hX : X.1.1 ≤ 260) {i : Nat} (hi : i < 1000000) (hq : ∀ v, Q (.inl (some (.int v))) h) : Call X 108 [.ref 1003, .int (nI i)] h Q := by
  refine call_of (by decide) rfl rfl ?_
  refine a_ldc1 (v := 69069) q108_0 (by decide) ?_
  refine a_iload_n (i := 1) q108_2 rfl rfl ?_
  refine a_aload_n (i := 0) q108_3 rfl rfl ?_
  refine a_alen_ro (j := 3) q108_4 rfl (by decide) rfl ?_
  refine a_icmp_ge (tgt := 14) q108_5 (by decide) (fun zc5 => ?_) (fun zc5 => ?_)
  · skip
    refine a_iconst (v := 0) q108_14 (by decide) ?_
    refine a_sipush (v := 1009) q108_15 (by decide) ?_
    refine a_iload_n (i := 1) q108_18 rfl rfl ?_
    refine a_imul q108_19 ?_
    refine a_iadd q108_20 ?_
    refine a_imul q108_21 ?_
    refine a_sipush (v := 12345) q108_22 (by decide) ?_
    refine a_iadd q108_25 ?_
    refine a_istore_n (i := 2) (lv' := [(0, _), (1, _), (2, _)]) q108_26 rfl rfl rfl ?_
    refine a_iload_n (i := 2) q108_27 rfl rfl ?_
    refine a_iload_n (i := 2) q108_28 rfl rfl ?_
    refine a_bipush (v := 13) q108_29 (by decide) ?_
    refine a_iushr q108_31 ?_
    refine a_ixor q108_32 ?_
    refine a_ldc1 (v := 1103515245) q108_33 (by decide) ?_
    refine a_imul q108_35 ?_
    refine a_istore_n (i := 2) (lv' := [(0, _), (1, _), (2, _)]) q108_36 rfl rfl rfl ?_
    refine a_iload_n (i := 2) q108_37 rfl rfl ?_
    refine a_iload_n (i := 2) q108_38 rfl rfl ?_
    refine a_bipush (v := 16) q108_39 (by decide) ?_
    refine a_iushr q108_41 ?_
    refine a_ixor q108_42 ?_
    refine a_ireturn q108_43 (nr_int rfl _) ?_
    exact hq _
  · skip
    refine a_aload_n (i := 0) q108_8 rfl rfl ?_
    refine a_iload_n (i := 1) q108_9 rfl rfl ?_
    refine a_iald_ro (j := 3) q108_10 rfl (by decide) (vp_in_nI (show i < X.1.1 from Nat.lt_of_not_le (fun zz => zc5 (nI_le zz (by omega)))) (by show X.1.1 < 2 ^ 31; omega)) ?_
    refine a_goto (tgt := 15) q108_11 (by decide) ?_
    refine a_sipush (v := 1009) q108_15 (by decide) ?_
    refine a_iload_n (i := 1) q108_18 rfl rfl ?_
    refine a_imul q108_19 ?_
    refine a_iadd q108_20 ?_
    refine a_imul q108_21 ?_
    refine a_sipush (v := 12345) q108_22 (by decide) ?_
    refine a_iadd q108_25 ?_
    refine a_istore_n (i := 2) (lv' := [(0, _), (1, _), (2, _)]) q108_26 rfl rfl rfl ?_
    refine a_iload_n (i := 2) q108_27 rfl rfl ?_
    refine a_iload_n (i := 2) q108_28 rfl rfl ?_
    refine a_bipush (v := 13) q108_29 (by decide) ?_
    refine a_iushr q108_31 ?_
    refine a_ixor q108_32 ?_
    refine a_ldc1 (v := 1103515245) q108_33 (by decide) ?_
    refine a_imul q108_35 ?_
    refine a_istore_n (i := 2) (lv' := [(0, _), (1, _), (2, _)]) q108_36 rfl rfl rfl ?_
    refine a_iload_n (i := 2) q108_37 rfl rfl ?_
    refine a_iload_n (i := 2) q108_38 rfl rfl ?_
    refine a_bipush (v := 16) q108_39 (by decide) ?_
    refine a_iushr q108_41 ?_
    refine a_ixor q108_42 ?_
    refine a_ireturn q108_43 (nr_int rfl _) ?_
    exact hq _

theorem c_L_in {X : XS} {h : AH} {Q : AO → AH → Prop} (hX : X.1.1 ≤ 260) {i m : Nat} (hi : i < 1000000) (hm0 : 0 < m) (hm : m < 2 ^ 31) (hq : ∀ j, j < m → Q (.inl (some (.int (nI j)))) h) : Call X 129 [.ref 1003, .int (nI i), .int (nI m)] h Q := by
  refine call_of (by decide) rfl rfl ?_
  refine a_aload_n (i := 0) q129_0 rfl rfl ?_
  refine a_iload_n (i := 1) q129_1 rfl rfl ?_
  refine a_cs2 q129_2 rfl ⟨rfl, rfl⟩ rfl ?_
  refine c_L_cell hX hi (fun v => ?_)
  refine ck_r ?_
  refine a_ldc1 (v := 2147483647) q129_5 (by decide) ?_
  refine a_iand q129_7 ?_
  refine a_iload_n (i := 2) q129_8 rfl rfl ?_
  refine a_irem q129_9 (nI_ne0 hm0 hm) ?_
  refine a_ireturn q129_10 (nr_int rfl _) ?_
  obtain ⟨j, hj, e⟩ := in_of (x := v) hm0 hm
  exact lfi (hq j hj) e

/-- the law's table -/
def nv (A : Nat → Nat → Int32) (c r : Nat) : Int32 := A 30 (100 + (6 * r + c))
theorem nI_v (r c : Nat) : (100 : Int32) + 6 * nI r + nI c = nI (100 + (6 * r + c)) := by
  rw [show (6 : Int32) = nI 6 from rfl, pk_mul, show (100 : Int32) = nI 100 from rfl, nI_add, nI_add, Nat.add_assoc]
theorem c_L_value {X : XS} {I : Nat → Int32} {A : Nat → Nat → Int32} {L : Nat → Nat → Int64} {O : AH} {Q : AO → AH → Prop} {r c : Nat} (hr : r < 40) (hc : c < 6) (hq : Q (.inl (some (.int (nv A c r)))) (hp I A L O)) : Call X 131 [.ref 0, .int (nI r), .int (nI c)] (hp I A L O) Q := by
  refine call_of (by decide) rfl rfl ?_
  refine a_aload_n (i := 0) q131_0 rfl rfl ?_
  refine a_bipush (v := 100) q131_1 (by decide) ?_
  refine a_bipush (v := 6) q131_3 (by decide) ?_
  refine a_iload_n (i := 1) q131_5 rfl rfl ?_
  refine a_imul q131_6 ?_
  refine a_iadd q131_7 ?_
  refine a_iload_n (i := 2) q131_8 rfl rfl ?_
  refine a_iadd q131_9 ?_
  refine a_iald' q131_10 rfl (j := 100 + (6 * r + c)) (nI_v r c) (by omega) (by decide) ?_
  refine a_ireturn q131_11 (nr_int rfl _) ?_
  exact hq

theorem stCnt_s (f : Nat → Int32) (r : Nat) : stCnt f r + b2i (¬ f r = -10000) = stCnt f (r + 1) := by
  show _ = if f r = -10000 then stCnt f r else stCnt f r + 1
  by_cases h : f r = -10000
  · rw [if_pos h, b2i_f (fun z => z h)]; exact Int32.add_zero _
  · rw [if_neg h, b2i_t h]
theorem stDif_s (f : Nat → Int32) (r : Nat) : stDif f r + b2i (isNew f r ∧ ¬ f r = -10000) = stDif f (r + 1) := by
  show _ = if f r = -10000 then stDif f r else stDif f r + b2i (isNew f r)
  by_cases h : f r = -10000
  · rw [if_pos h, b2i_f (fun z => z.2 h)]; exact Int32.add_zero _
  · rw [if_neg h]
    by_cases g : isNew f r
    · rw [b2i_t ⟨g, h⟩, b2i_t g]
    · rw [b2i_f (fun z => g z.1), b2i_f g]
theorem l_many (m : Nat) : ∀ {X : XS} {I : Nat → Int32} {A : Nat → Nat → Int32} {L : Nat → Nat → Int64} {O : AH} {Q : AO → AH → Prop} {n c r : Nat} (hn : A 30 0 = nI n) (hn40 : n ≤ 40) (hc : c < 6) (hv : ∀ r, r < n → isVal (nv A c r)) (hm : r + m = n) (hq : Q (.inl (some (.int (stCnt (nv A c) n)))) (hp I A L O)), AW X 134 4 [(0, .ref 0), (1, .int (nI c)), (2, .int (stCnt (nv A c) r)), (3, .int (nI r))] [] (hp I A L O) 0 0 Q := by
  induction m with
  | zero =>
    intro X I A L O Q n c r hn hn40 hc hv hm hq
    refine a_iload_n (i := 3) q134_4 rfl rfl ?_
    refine a_aload_n (i := 0) q134_5 rfl rfl ?_
    refine a_iconst (v := 0) q134_6 (by decide) ?_
    refine a_iald' q134_7 rfl (j := 0) rfl (by decide) (by decide) ?_
    refine AW.ti hn ?_
    refine a_icmp_ge (tgt := 37) q134_8 (by decide) (fun zc8 => ?_) (fun zc8 => absurd (nI_le (show n ≤ r by omega) (by omega)) zc8)
    refine a_iload_n (i := 2) q134_37 rfl rfl ?_
    refine a_ireturn q134_38 (nr_int rfl _) ?_
    have e : r = n := by omega
    subst e; exact hq
  | succ m ih =>
    intro X I A L O Q n c r hn hn40 hc hv hm hq
    refine a_iload_n (i := 3) q134_4 rfl rfl ?_
    refine a_aload_n (i := 0) q134_5 rfl rfl ?_
    refine a_iconst (v := 0) q134_6 (by decide) ?_
    refine a_iald' q134_7 rfl (j := 0) rfl (by decide) (by decide) ?_
    refine AW.ti hn ?_
    refine a_icmp_ge (tgt := 37) q134_8 (by decide) (fun zc8 => absurd zc8 (nI_ge (show r < n by omega) (by omega))) (fun zc8 => ?_)
    refine a_iload_n (i := 2) q134_11 rfl rfl ?_
    refine AW.cut 29 (b2i (¬ nv A c r = -10000)) (fun zk29 => ?_) ?_
    · skip
      refine a_aload_n (i := 0) q134_12 rfl rfl ?_
      refine a_iload_n (i := 3) q134_13 rfl rfl ?_
      refine a_iload_n (i := 1) q134_14 rfl rfl ?_
      refine a_cs3 q134_15 rfl ⟨rfl, rfl⟩ rfl ?_
      refine c_L_value (show r < 40 by omega) hc ?_
      refine ck_r ?_
      refine a_sipush (v := (-10000)) q134_18 (by decide) ?_
      refine a_icmp_le (tgt := 28) q134_21 (by decide) (fun zc21 => ?_) (fun zc21 => ?_)
      · skip
        refine a_iconst (v := 0) q134_28 (by decide) ?_
        exact cutv zk29 (by have zl := lits; have zv := hv r (by omega); unfold b2i; split <;> (simp only [isVal, i_le, i_eq] at * <;> omega))
      · skip
        refine a_iconst (v := 1) q134_24 (by decide) ?_
        refine a_goto (tgt := 29) q134_25 (by decide) ?_
        exact cutv zk29 (by have zl := lits; have zv := hv r (by omega); unfold b2i; split <;> (simp only [isVal, i_le, i_eq] at * <;> omega))
    refine a_iadd q134_29 ?_
    refine AW.ti (stCnt_s _ _) ?_
    refine a_istore_n (i := 2) (lv' := [(0, _), (1, _), (2, _), (3, _)]) q134_30 rfl rfl rfl ?_
    refine a_iinc (v := nI (r + 1)) (lv' := [(0, _), (1, _), (2, _), (3, _)]) q134_31 rfl rfl (nI_1 (r)) rfl ?_
    refine a_goto (tgt := 4) q134_34 (by decide) ?_
    exact ih hn hn40 hc hv (show r + 1 + m = n by omega) hq

theorem c_L_many {X : XS} {I : Nat → Int32} {A : Nat → Nat → Int32} {L : Nat → Nat → Int64} {O : AH} {Q : AO → AH → Prop} {n c : Nat} (hn : A 30 0 = nI n) (hn40 : n ≤ 40) (hc : c < 6) (hv : ∀ r, r < n → isVal (nv A c r)) (hq : Q (.inl (some (.int (stCnt (nv A c) n)))) (hp I A L O)) : Call X 134 [.ref 0, .int (nI c)] (hp I A L O) Q := by
  refine call_of (by decide) rfl rfl ?_
  refine a_iconst (v := 0) q134_0 (by decide) ?_
  refine a_istore_n (i := 2) (lv' := [(0, _), (1, _), (2, _)]) q134_1 rfl rfl rfl ?_
  refine a_iconst (v := 0) q134_2 (by decide) ?_
  refine a_istore_n (i := 3) (lv' := [(0, _), (1, _), (2, _), (3, _)]) q134_3 rfl rfl rfl ?_
  exact l_many n (r := 0) hn hn40 hc hv (Nat.zero_add n) hq

theorem l_difI (m : Nat) : ∀ {X : XS} {I : Nat → Int32} {A : Nat → Nat → Int32} {L : Nat → Nat → Int64} {O : AH} {Q : AO → AH → Prop} {a : Int32} {c r k : Nat} (hc : c < 6) (hr : r < 40) (hm : k + m = r) (hno : ∀ j, j < k → ¬ nv A c j = nv A c r) (kk : ∀ k, k ≤ r → (∀ j, j < k → ¬ nv A c j = nv A c r) → nv A c k = nv A c r → AW X 135 36 [(0, .ref 0), (1, .int (nI c)), (2, .int a), (3, .int (nI r)), (4, .int (nI k))] [] (hp I A L O) 0 0 Q), AW X 135 14 [(0, .ref 0), (1, .int (nI c)), (2, .int a), (3, .int (nI r)), (4, .int (nI k))] [] (hp I A L O) 0 0 Q := by
  induction m with
  | zero =>
    intro X I A L O Q a c r k hc hr hm hno kk
    refine a_aload_n (i := 0) q135_14 rfl rfl ?_
    refine a_iload q135_15 rfl ?_
    refine a_iload_n (i := 1) q135_17 rfl rfl ?_
    refine a_cs3 q135_18 rfl ⟨rfl, rfl⟩ rfl ?_
    refine c_L_value (show k < 40 by omega) hc ?_
    refine ck_r ?_
    refine a_aload_n (i := 0) q135_21 rfl rfl ?_
    refine a_iload_n (i := 3) q135_22 rfl rfl ?_
    refine a_iload_n (i := 1) q135_23 rfl rfl ?_
    refine a_cs3 q135_24 rfl ⟨rfl, rfl⟩ rfl ?_
    refine c_L_value hr hc ?_
    refine ck_r ?_
    refine a_icmp_eq (tgt := 36) q135_27 (by decide) (fun zc27 => ?_) (fun zc27 => absurd (show nv A c k = nv A c r by rw [show k = r by omega]) zc27)
    exact kk k (by omega) hno (by rw [show k = r by omega])
  | succ m ih =>
    intro X I A L O Q a c r k hc hr hm hno kk
    refine a_aload_n (i := 0) q135_14 rfl rfl ?_
    refine a_iload q135_15 rfl ?_
    refine a_iload_n (i := 1) q135_17 rfl rfl ?_
    refine a_cs3 q135_18 rfl ⟨rfl, rfl⟩ rfl ?_
    refine c_L_value (show k < 40 by omega) hc ?_
    refine ck_r ?_
    refine a_aload_n (i := 0) q135_21 rfl rfl ?_
    refine a_iload_n (i := 3) q135_22 rfl rfl ?_
    refine a_iload_n (i := 1) q135_23 rfl rfl ?_
    refine a_cs3 q135_24 rfl ⟨rfl, rfl⟩ rfl ?_
    refine c_L_value hr hc ?_
    refine ck_r ?_
    refine a_icmp_eq (tgt := 36) q135_27 (by decide) (fun zc27 => ?_) (fun zc27 => ?_)
    · skip
      exact kk k (by omega) hno zc27
    · skip
      refine a_iinc (v := nI (k + 1)) (lv' := [(0, _), (1, _), (2, _), (3, _), (4, _)]) q135_30 rfl rfl (nI_1 (k)) rfl ?_
      refine a_goto (tgt := 14) q135_33 (by decide) ?_
      exact ih hc hr (show k + 1 + m = r by omega) (fun j hj => (Nat.lt_or_ge j k).elim (fun z => hno j z) (fun z => by rw [show j = k by omega]; exact zc27)) kk

theorem b2i_c2 {p q : Prop} [Decidable p] [Decidable q] (h : p ↔ q) : b2i p = b2i q := by
  by_cases hp : p
  · rw [b2i_t hp, b2i_t (h.mp hp)]
  · rw [b2i_f hp, b2i_f (fun z => hp (h.mpr z))]
theorem l_dif (m : Nat) : ∀ {X : XS} {I : Nat → Int32} {A : Nat → Nat → Int32} {L : Nat → Nat → Int64} {O : AH} {Q : AO → AH → Prop} {n c r : Nat} (hn : A 30 0 = nI n) (hn40 : n ≤ 40) (hc : c < 6) (hv : ∀ r, r < n → isVal (nv A c r)) (hm : r + m = n) (hq : Q (.inl (some (.int (stDif (nv A c) n)))) (hp I A L O)), AW X 135 4 [(0, .ref 0), (1, .int (nI c)), (2, .int (stDif (nv A c) r)), (3, .int (nI r))] [] (hp I A L O) 0 0 Q := by
  induction m with
  | zero =>
    intro X I A L O Q n c r hn hn40 hc hv hm hq
    refine a_iload_n (i := 3) q135_4 rfl rfl ?_
    refine a_aload_n (i := 0) q135_5 rfl rfl ?_
    refine a_iconst (v := 0) q135_6 (by decide) ?_
    refine a_iald' q135_7 rfl (j := 0) rfl (by decide) (by decide) ?_
    refine AW.ti hn ?_
    refine a_icmp_ge (tgt := 68) q135_8 (by decide) (fun zc8 => ?_) (fun zc8 => absurd (nI_le (show n ≤ r by omega) (by omega)) zc8)
    refine a_iload_n (i := 2) q135_68 rfl rfl ?_
    refine a_ireturn q135_69 (nr_int rfl _) ?_
    have e : r = n := by omega
    subst e; exact hq
  | succ m ih =>
    intro X I A L O Q n c r hn hn40 hc hv hm hq
    refine a_iload_n (i := 3) q135_4 rfl rfl ?_
    refine a_aload_n (i := 0) q135_5 rfl rfl ?_
    refine a_iconst (v := 0) q135_6 (by decide) ?_
    refine a_iald' q135_7 rfl (j := 0) rfl (by decide) (by decide) ?_
    refine AW.ti hn ?_
    refine a_icmp_ge (tgt := 68) q135_8 (by decide) (fun zc8 => absurd zc8 (nI_ge (show r < n by omega) (by omega))) (fun zc8 => ?_)
    refine a_iconst (v := 0) q135_11 (by decide) ?_
    refine a_istore (i := 4) (lv' := [(0, _), (1, _), (2, _), (3, _), (4, _)]) q135_12 rfl rfl ?_
    refine l_difI r (k := 0) hc (by omega) (Nat.zero_add r) (fun j hj => absurd hj (Nat.not_lt_zero j)) (fun k hk zno zeq => ?_)
    refine a_iload_n (i := 2) q135_36 rfl rfl ?_
    refine AW.cut 60 (b2i (isNew (nv A c) r ∧ ¬ nv A c r = -10000)) (fun zk60 => ?_) ?_
    · skip
      refine a_iload q135_37 rfl ?_
      refine a_iload_n (i := 3) q135_39 rfl rfl ?_
      refine a_icmp_ne (tgt := 59) q135_40 (by decide) (fun zc40 => ?_) (fun zc40 => ?_)
      · skip
        refine a_iconst (v := 0) q135_59 (by decide) ?_
        exact cutv zk60 (by have zl := lits; have zv := hv r (by omega); rw [b2i_c2 (q := k = r ∧ ¬ nv A c r = -10000) ⟨fun z => ⟨Nat.le_antisymm hk (Nat.le_of_not_lt (fun y => z.1 k y zeq)), z.2⟩, fun z => ⟨fun j hj => zno j (by rw [z.1]; exact hj), z.2⟩⟩]; have zk := nI_eq (show k < 2 ^ 31 by omega) (show r < 2 ^ 31 by omega); unfold b2i; split <;> first | (simp_all; done) | (simp only [isVal, zk, i_le, i_eq] at * <;> omega))
      · skip
        refine a_aload_n (i := 0) q135_43 rfl rfl ?_
        refine a_iload_n (i := 3) q135_44 rfl rfl ?_
        refine a_iload_n (i := 1) q135_45 rfl rfl ?_
        refine a_cs3 q135_46 rfl ⟨rfl, rfl⟩ rfl ?_
        refine c_L_value (show r < 40 by omega) hc ?_
        refine ck_r ?_
        refine a_sipush (v := (-10000)) q135_49 (by decide) ?_
        refine a_icmp_le (tgt := 59) q135_52 (by decide) (fun zc52 => ?_) (fun zc52 => ?_)
        · skip
          refine a_iconst (v := 0) q135_59 (by decide) ?_
          exact cutv zk60 (by have zl := lits; have zv := hv r (by omega); rw [b2i_c2 (q := k = r ∧ ¬ nv A c r = -10000) ⟨fun z => ⟨Nat.le_antisymm hk (Nat.le_of_not_lt (fun y => z.1 k y zeq)), z.2⟩, fun z => ⟨fun j hj => zno j (by rw [z.1]; exact hj), z.2⟩⟩]; have zk := nI_eq (show k < 2 ^ 31 by omega) (show r < 2 ^ 31 by omega); unfold b2i; split <;> first | (simp_all; done) | (simp only [isVal, zk, i_le, i_eq] at * <;> omega))
        · skip
          refine a_iconst (v := 1) q135_55 (by decide) ?_
          refine a_goto (tgt := 60) q135_56 (by decide) ?_
          exact cutv zk60 (by have zl := lits; have zv := hv r (by omega); rw [b2i_c2 (q := k = r ∧ ¬ nv A c r = -10000) ⟨fun z => ⟨Nat.le_antisymm hk (Nat.le_of_not_lt (fun y => z.1 k y zeq)), z.2⟩, fun z => ⟨fun j hj => zno j (by rw [z.1]; exact hj), z.2⟩⟩]; have zk := nI_eq (show k < 2 ^ 31 by omega) (show r < 2 ^ 31 by omega); unfold b2i; split <;> first | (simp_all; done) | (simp only [isVal, zk, i_le, i_eq] at * <;> omega))
    refine a_iadd q135_60 ?_
    refine AW.ti (stDif_s _ _) ?_
    refine a_istore_n (i := 2) (lv' := [(0, _), (1, _), (2, _), (3, _), (4, _)]) q135_61 rfl rfl rfl ?_
    refine a_iinc (v := nI (r + 1)) (lv' := [(0, _), (1, _), (2, _), (3, _), (4, _)]) q135_62 rfl rfl (nI_1 (r)) rfl ?_
    refine a_goto (tgt := 4) q135_65 (by decide) ?_
    refine AW.pop_less (x := (4, _)) (lv' := [(0, _), (1, _), (2, _), (3, _)]) ?_
    exact ih hn hn40 hc hv (show r + 1 + m = n by omega) hq

theorem c_L_different_ {X : XS} {I : Nat → Int32} {A : Nat → Nat → Int32} {L : Nat → Nat → Int64} {O : AH} {Q : AO → AH → Prop} {n c : Nat} (hn : A 30 0 = nI n) (hn40 : n ≤ 40) (hc : c < 6) (hv : ∀ r, r < n → isVal (nv A c r)) (hq : Q (.inl (some (.int (stDif (nv A c) n)))) (hp I A L O)) : Call X 135 [.ref 0, .int (nI c)] (hp I A L O) Q := by
  refine call_of (by decide) rfl rfl ?_
  refine a_iconst (v := 0) q135_0 (by decide) ?_
  refine a_istore_n (i := 2) (lv' := [(0, _), (1, _), (2, _)]) q135_1 rfl rfl rfl ?_
  refine a_iconst (v := 0) q135_2 (by decide) ?_
  refine a_istore_n (i := 3) (lv' := [(0, _), (1, _), (2, _), (3, _)]) q135_3 rfl rfl rfl ?_
  exact l_dif n (r := 0) hn hn40 hc hv (Nat.zero_add n) hq

def kLast (f : Nat → Int32) : Nat → Int32
  | 0 => -10000
  | r + 1 => if kLast f r < f r then f r else kLast f r
def kRis (f : Nat → Int32) (b : Int32) : Nat → Int32
  | 0 => b
  | r + 1 => kRis f b r &&& b2i (f r = -10000 ∨ kLast f r < f r)
theorem kLast_ge (f : Nat → Int32) : ∀ r, -10000 ≤ kLast f r
  | 0 => by show (-10000 : Int32) ≤ -10000; decide
  | r + 1 => by
    have h := kLast_ge f r
    rw [kLast]
    split
    · rename_i z; rw [i_lt] at z; rw [i_le] at *; omega
    · exact h
theorem b01_and {x : Int32} (h : x = 0 ∨ x = 1) (p : Prop) [Decidable p] : (x &&& b2i p = 0 ∨ x &&& b2i p = 1) ∧ (¬ x &&& b2i p = 0 ↔ ¬ x = 0 ∧ p) := by
  by_cases hp : p
  · rw [b2i_t hp]; rcases h with rfl | rfl
    · exact ⟨Or.inl rfl, ⟨fun z => absurd rfl z, fun z => absurd rfl z.1⟩⟩
    · exact ⟨Or.inr rfl, ⟨fun z => ⟨by decide, hp⟩, fun _ => by decide⟩⟩
  · rw [b2i_f hp]; rcases h with rfl | rfl
    · exact ⟨Or.inl rfl, ⟨fun z => absurd rfl z, fun z => absurd z.2 hp⟩⟩
    · exact ⟨Or.inl rfl, ⟨fun z => absurd rfl z, fun z => absurd z.2 hp⟩⟩
theorem kRis_ok (f : Nat → Int32) {b : Int32} (hb : b = 0 ∨ b = 1) : ∀ r, (¬ stRis f r = 0 → kLast f r = stLast f r) ∧ (kRis f b r = 0 ∨ kRis f b r = 1) ∧ (¬ kRis f b r = 0 ↔ ¬ b = 0 ∧ ¬ stRis f r = 0)
  | 0 => ⟨fun _ => rfl, hb, ⟨fun z => ⟨z, by show ¬ (1 : Int32) = 0; decide⟩, fun z => z.1⟩⟩
  | r + 1 => by
    obtain ⟨h1, h2, h3⟩ := kRis_ok f hb r
    obtain ⟨a1, a2⟩ := b01_and h2 (f r = -10000 ∨ kLast f r < f r)
    have eR : kRis f b (r + 1) = kRis f b r &&& b2i (f r = -10000 ∨ kLast f r < f r) := rfl
    rw [← eR] at a1 a2
    have eS : stRis f (r + 1) = if f r = -10000 then stRis f r else b2i (¬ stRis f r = 0 ∧ stLast f r < f r) := rfl
    have eL : stLast f (r + 1) = if f r = -10000 then stLast f r else f r := rfl
    have eK : kLast f (r + 1) = if kLast f r < f r then f r else kLast f r := rfl
    by_cases hf : f r = -10000
    · rw [if_pos hf] at eS eL
      have hk : ¬ kLast f r < f r := by
        have := kLast_ge f r; rw [hf]; exact i_nlt.mpr this
      rw [if_neg hk] at eK
      rw [eS, eL, eK]
      exact ⟨h1, a1, a2.trans ⟨fun z => h3.mp z.1, fun z => ⟨h3.mpr z, Or.inl hf⟩⟩⟩
    · rw [if_neg hf] at eS eL
      rw [eS, eL, eK]
      refine ⟨fun z => ?_, a1, a2.trans ⟨fun z => ?_, fun z => ?_⟩⟩
      · have z2 := b2i_nz.mp z
        rw [if_pos (by rw [h1 z2.1]; exact z2.2)]
      · obtain ⟨y1, y2⟩ := h3.mp z.1
        refine ⟨y1, b2i_nz.mpr ⟨y2, ?_⟩⟩
        rw [← h1 y2]; exact z.2.resolve_left hf
      · have z2 := b2i_nz.mp z.2
        exact ⟨h3.mpr ⟨z.1, z2.1⟩, Or.inr (by rw [h1 z2.1]; exact z2.2)⟩
def kindL (u F R C : Int32) : Int32 := if 2 ≤ u then (if F ≤ 0 then (if R = 0 then (if C = 0 then 4 else 3) else 2) else F) else (if u = 0 then 0 else 1)
/-- a column's kind, as the law has it -/
def nkd (A : Nat → Nat → Int32) (n c : Nat) : Int32 := m_kind (stCnt (nv A c) n) (stDif (nv A c) n) (A 30 (10 + c)) (stRis (nv A c) n)
theorem st_nu2 (f : Nat → Int32) : ∀ n, ∃ N U, N ≤ n ∧ U ≤ N ∧ stCnt f n = nI N ∧ stDif f n = nI U ∧ (N = 0 → ∀ r, r < n → f r = -10000) ∧ (U = 0 → N = 0)
  | 0 => ⟨0, 0, Nat.le_refl _, Nat.le_refl _, rfl, rfl, fun _ r hr => absurd hr (Nat.not_lt_zero r), fun _ => rfl⟩
  | n + 1 => by
    obtain ⟨N, U, h1, h2, h3, h4, h5, h6⟩ := st_nu2 f n
    by_cases hz : f n = -10000
    · refine ⟨N, U, by omega, h2, by rw [stCnt, if_pos hz, h3], by rw [stDif, if_pos hz, h4], fun hN r hr => ?_, h6⟩
      by_cases hr' : r = n
      · rw [hr']; exact hz
      · exact h5 hN r (by omega)
    · have e1 : stCnt f (n + 1) = nI (N + 1) := by rw [stCnt, if_neg hz, h3]; exact nI_1 _
      by_cases hw : isNew f n
      · refine ⟨N + 1, U + 1, by omega, by omega, e1, ?_, fun hN => by omega, fun hU => by omega⟩
        rw [stDif, if_neg hz, b2i_t hw, h4]; exact nI_1 _
      · refine ⟨N + 1, U, by omega, by omega, e1, ?_, fun hN => by omega, fun hU => ?_⟩
        · rw [stDif, if_neg hz, b2i_f hw, h4]; exact Int32.add_zero _
        · have hN := h6 hU
          exact absurd (fun j hj y => hz ((h5 hN j hj).symm.trans y).symm) hw
theorem kindL_ok {A : Nat → Nat → Int32} {n c : Nat} (hn40 : n ≤ 40) : kindL (stDif (nv A c) n) (A 30 (10 + c)) (kRis (nv A c) (b2i (3 < stCnt (nv A c) n)) n) (b2i (stDif (nv A c) n < 7 ∧ stDif (nv A c) n + stDif (nv A c) n ≤ stCnt (nv A c) n)) = nkd A n c := by
  unfold nkd
  generalize A 30 (10 + c) = F
  have hR := (kRis_ok (nv A c) (b := b2i (3 < stCnt (nv A c) n)) b2i_01 n).2.2
  generalize kRis (nv A c) (b2i (3 < stCnt (nv A c) n)) n = R at hR ⊢
  generalize stRis (nv A c) n = S at hR ⊢
  rw [b2i_nz] at hR
  obtain ⟨N, U, h1, h2, h3, h4, h5, h6⟩ := st_nu2 (nv A c) n
  generalize stCnt (nv A c) n = N0 at h3 hR ⊢
  generalize stDif (nv A c) n = U0 at h4 ⊢
  subst h3
  subst h4
  have n0 : nI N = 0 ↔ N = 0 := nI_eq (b := 0) (by omega) (by omega)
  have u0 : nI U = 0 ↔ U = 0 := nI_eq (b := 0) (by omega) (by omega)
  have u2 : nI U < 2 ↔ U < 2 := nI_ltI (b := 2) (by omega) (by omega)
  have u2' : 2 ≤ nI U ↔ 2 ≤ U := nI_leI (a := 2) (by omega) (by omega)
  have u7 : nI U < 7 ↔ U < 7 := nI_ltI (b := 7) (by omega) (by omega)
  have u6 : nI U ≤ 6 ↔ U ≤ 6 := nI_leI (b := 6) (by omega) (by omega)
  have n3 : 3 < nI N ↔ 3 < N := nI_ltI (a := 3) (by omega) (by omega)
  have n4 : 4 ≤ nI N ↔ 4 ≤ N := nI_leI (a := 4) (by omega) (by omega)
  have uu : nI U + nI U ≤ nI N ↔ U + U ≤ N := by rw [nI_add]; exact nI_leI (by omega) (by omega)
  have uu2 : 2 * nI U ≤ nI N ↔ 2 * U ≤ N := by rw [show (2 : Int32) = nI 2 from rfl, pk_mul]; exact nI_leI (by omega) (by omega)
  rw [n3] at hR
  unfold kindL m_kind
  have eC : ((b2i (nI U < 7 ∧ nI U + nI U ≤ nI N)) = 0) ↔ ¬ (nI U ≤ 6 ∧ 2 * nI U ≤ nI N) := by rw [b2i_z, u7, uu, u6, uu2]; omega
  by_cases c2 : 2 ≤ U
  · rw [if_pos (u2'.mpr c2), if_neg (show ¬ nI U < 2 from fun z => by have := u2.mp z; omega)]
    by_cases cF : F ≤ 0
    · rw [if_pos cF, if_neg (show ¬ 0 < F from i_nlt.mpr cF)]
      by_cases cR : R = 0
      · rw [if_pos cR, if_neg (show ¬ (4 ≤ nI N ∧ ¬ S = 0) from fun z => hR.mpr ⟨by have := n4.mp z.1; omega, z.2⟩ cR)]
        by_cases cC : nI U ≤ 6 ∧ 2 * nI U ≤ nI N
        · rw [if_neg (show ¬ b2i (nI U < 7 ∧ nI U + nI U ≤ nI N) = 0 from fun z => eC.mp z cC), if_pos cC]
        · rw [if_pos (eC.mpr cC), if_neg cC]
      · rw [if_neg cR, if_pos (by have := hR.mp cR; exact ⟨n4.mpr (by omega), this.2⟩)]
    · rw [if_neg cF, if_pos (i_nle.mp cF)]
  · rw [if_neg (show ¬ 2 ≤ nI U from fun z => c2 (u2'.mp z)), if_pos (u2.mpr (by omega))]
    by_cases cU : U = 0
    · rw [if_pos (u0.mpr cU), if_pos (n0.mpr (h6 cU))]
    · rw [if_neg (show ¬ nI U = 0 from fun z => cU (u0.mp z)), if_neg (show ¬ nI N = 0 from fun z => by have := n0.mp z; omega)]
theorem l_kind (m : Nat) : ∀ {X : XS} {I : Nat → Int32} {A : Nat → Nat → Int32} {L : Nat → Nat → Int64} {O : AH} {Q : AO → AH → Prop} {n c r : Nat} (hn : A 30 0 = nI n) (hn40 : n ≤ 40) (hc : c < 6) (hv : ∀ r, r < n → isVal (nv A c r)) (hm : r + m = n) (hq : Q (.inl (some (.int (nkd A n c)))) (hp I A L O)), AW X 136 32 [(0, .ref 0), (1, .int (nI c)), (2, .int (stCnt (nv A c) n)), (3, .int (stDif (nv A c) n)), (4, .int (kLast (nv A c) r)), (5, .int (kRis (nv A c) (b2i (3 < (stCnt (nv A c) n))) r)), (6, .int (nI r))] [] (hp I A L O) 0 0 Q := by
  induction m with
  | zero =>
    intro X I A L O Q n c r hn hn40 hc hv hm hq
    refine a_iload q136_32 rfl ?_
    refine a_aload_n (i := 0) q136_34 rfl rfl ?_
    refine a_iconst (v := 0) q136_35 (by decide) ?_
    refine a_iald' q136_36 rfl (j := 0) rfl (by decide) (by decide) ?_
    refine AW.ti hn ?_
    refine a_icmp_ge (tgt := 89) q136_37 (by decide) (fun zc37 => ?_) (fun zc37 => absurd (nI_le (show n ≤ r by omega) (by omega)) zc37)
    have e : r = n := by omega
    subst e
    refine a_iload_n (i := 3) q136_89 rfl rfl ?_
    refine a_iconst (v := 2) q136_90 (by decide) ?_
    refine a_icmp_ge (tgt := 104) q136_91 (by decide) (fun zc91 => ?_) (fun zc91 => ?_)
    · skip
      refine AW.cut 122 (b2i ((stDif (nv A c) r) < 7 ∧ (stDif (nv A c) r) + (stDif (nv A c) r) ≤ (stCnt (nv A c) r))) (fun zk122 => ?_) ?_
      · skip
        refine a_iload_n (i := 3) q136_104 rfl rfl ?_
        refine a_bipush (v := 7) q136_105 (by decide) ?_
        refine a_icmp_ge (tgt := 121) q136_107 (by decide) (fun zc107 => ?_) (fun zc107 => ?_)
        · skip
          refine a_iconst (v := 0) q136_121 (by decide) ?_
          exact cutv zk122 (by have zl := lits; unfold b2i; split <;> first | (simp_all; done) | (simp only [i_lt, i_le, i_eq] at * <;> omega))
        · skip
          refine a_iload_n (i := 2) q136_110 rfl rfl ?_
          refine a_iload_n (i := 3) q136_111 rfl rfl ?_
          refine a_iload_n (i := 3) q136_112 rfl rfl ?_
          refine a_iadd q136_113 ?_
          refine a_icmp_lt (tgt := 121) q136_114 (by decide) (fun zc114 => ?_) (fun zc114 => ?_)
          · skip
            refine a_iconst (v := 0) q136_121 (by decide) ?_
            exact cutv zk122 (by have zl := lits; unfold b2i; split <;> first | (simp_all; done) | (simp only [i_lt, i_le, i_eq] at * <;> omega))
          · skip
            refine a_iconst (v := 1) q136_117 (by decide) ?_
            refine a_goto (tgt := 122) q136_118 (by decide) ?_
            exact cutv zk122 (by have zl := lits; unfold b2i; split <;> first | (simp_all; done) | (simp only [i_lt, i_le, i_eq] at * <;> omega))
      refine a_istore (i := 6) (lv' := [(0, _), (1, _), (2, _), (3, _), (4, _), (5, _), (6, _)]) q136_122 rfl rfl ?_
      refine a_aload_n (i := 0) q136_124 rfl rfl ?_
      refine a_bipush (v := 10) q136_125 (by decide) ?_
      refine a_iload_n (i := 1) q136_127 rfl rfl ?_
      refine a_iadd q136_128 ?_
      refine a_iald' q136_129 rfl (j := 10 + c) (nI_add 10 c) (by omega) (by decide) ?_
      refine a_if_le (tgt := 142) q136_130 (by decide) (fun zc130 => ?_) (fun zc130 => ?_)
      · skip
        refine a_iload q136_142 rfl ?_
        refine a_if_eq (tgt := 151) q136_144 (by decide) (fun zc144 => ?_) (fun zc144 => ?_)
        · skip
          refine a_iload q136_151 rfl ?_
          refine a_if_eq (tgt := 160) q136_153 (by decide) (fun zc153 => ?_) (fun zc153 => ?_)
          · skip
            refine a_iconst (v := 4) q136_160 (by decide) ?_
            refine a_ireturn q136_161 (nr_int rfl _) ?_
            exact lfi hq ((kindL_ok hn40).symm.trans (by unfold kindL; rw [if_pos zc91, if_pos zc130, if_pos zc144, if_pos zc153])).symm
          · skip
            refine a_iconst (v := 3) q136_156 (by decide) ?_
            refine a_goto (tgt := 161) q136_157 (by decide) ?_
            refine a_ireturn q136_161 (nr_int rfl _) ?_
            exact lfi hq ((kindL_ok hn40).symm.trans (by unfold kindL; rw [if_pos zc91, if_pos zc130, if_pos zc144, if_neg zc153])).symm
        · skip
          refine a_iconst (v := 2) q136_147 (by decide) ?_
          refine a_goto (tgt := 161) q136_148 (by decide) ?_
          refine a_ireturn q136_161 (nr_int rfl _) ?_
          exact lfi hq ((kindL_ok hn40).symm.trans (by unfold kindL; rw [if_pos zc91, if_pos zc130, if_neg zc144])).symm
      · skip
        refine a_aload_n (i := 0) q136_133 rfl rfl ?_
        refine a_bipush (v := 10) q136_134 (by decide) ?_
        refine a_iload_n (i := 1) q136_136 rfl rfl ?_
        refine a_iadd q136_137 ?_
        refine a_iald' q136_138 rfl (j := 10 + c) (nI_add 10 c) (by omega) (by decide) ?_
        refine a_goto (tgt := 161) q136_139 (by decide) ?_
        refine a_ireturn q136_161 (nr_int rfl _) ?_
        exact lfi hq ((kindL_ok hn40).symm.trans (by unfold kindL; rw [if_pos zc91, if_neg zc130])).symm
    · skip
      refine a_iload_n (i := 3) q136_94 rfl rfl ?_
      refine a_if_ne (tgt := 102) q136_95 (by decide) (fun zc95 => ?_) (fun zc95 => ?_)
      · skip
        refine a_iconst (v := 1) q136_102 (by decide) ?_
        refine a_ireturn q136_103 (nr_int rfl _) ?_
        exact lfi hq ((kindL_ok hn40).symm.trans (by unfold kindL; rw [if_neg zc91, if_neg zc95])).symm
      · skip
        refine a_iconst (v := 0) q136_98 (by decide) ?_
        refine a_goto (tgt := 103) q136_99 (by decide) ?_
        refine a_ireturn q136_103 (nr_int rfl _) ?_
        exact lfi hq ((kindL_ok hn40).symm.trans (by unfold kindL; rw [if_neg zc91, if_pos zc95])).symm
  | succ m ih =>
    intro X I A L O Q n c r hn hn40 hc hv hm hq
    refine a_iload q136_32 rfl ?_
    refine a_aload_n (i := 0) q136_34 rfl rfl ?_
    refine a_iconst (v := 0) q136_35 (by decide) ?_
    refine a_iald' q136_36 rfl (j := 0) rfl (by decide) (by decide) ?_
    refine AW.ti hn ?_
    refine a_icmp_ge (tgt := 89) q136_37 (by decide) (fun zc37 => absurd zc37 (nI_ge (show r < n by omega) (by omega))) (fun zc37 => ?_)
    refine a_aload_n (i := 0) q136_40 rfl rfl ?_
    refine a_iload q136_41 rfl ?_
    refine a_iload_n (i := 1) q136_43 rfl rfl ?_
    refine a_cs3 q136_44 rfl ⟨rfl, rfl⟩ rfl ?_
    refine c_L_value (show r < 40 by omega) hc ?_
    refine ck_r ?_
    refine a_istore (i := 7) (lv' := [(0, _), (1, _), (2, _), (3, _), (4, _), (5, _), (6, _), (7, _)]) q136_47 rfl rfl ?_
    refine a_iload q136_49 rfl ?_
    refine AW.cut 71 (b2i (nv A c r = -10000 ∨ kLast (nv A c) r < nv A c r)) (fun zk71 => ?_) ?_
    · skip
      refine a_iload q136_51 rfl ?_
      refine a_sipush (v := (-10000)) q136_53 (by decide) ?_
      refine a_icmp_eq (tgt := 66) q136_56 (by decide) (fun zc56 => ?_) (fun zc56 => ?_)
      · skip
        refine a_iconst (v := 1) q136_66 (by decide) ?_
        refine a_goto (tgt := 71) q136_67 (by decide) ?_
        exact cutv zk71 (by have zl := lits; unfold b2i; split <;> first | (simp_all; done) | (simp only [i_lt, i_le, i_eq] at * <;> omega))
      · skip
        refine a_iload q136_59 rfl ?_
        refine a_iload q136_61 rfl ?_
        refine a_icmp_le (tgt := 70) q136_63 (by decide) (fun zc63 => ?_) (fun zc63 => ?_)
        · skip
          refine a_iconst (v := 0) q136_70 (by decide) ?_
          exact cutv zk71 (by have zl := lits; unfold b2i; split <;> first | (simp_all; done) | (simp only [i_lt, i_le, i_eq] at * <;> omega))
        · skip
          refine a_iconst (v := 1) q136_66 (by decide) ?_
          refine a_goto (tgt := 71) q136_67 (by decide) ?_
          exact cutv zk71 (by have zl := lits; unfold b2i; split <;> first | (simp_all; done) | (simp only [i_lt, i_le, i_eq] at * <;> omega))
    refine a_iand q136_71 ?_
    refine a_istore (i := 5) (lv' := [(0, _), (1, _), (2, _), (3, _), (4, _), (5, _), (6, _), (7, _)]) q136_72 rfl rfl ?_
    refine a_iload q136_74 rfl ?_
    refine a_iload q136_76 rfl ?_
    refine a_mmax q136_78 rfl ?_
    refine a_istore (i := 4) (lv' := [(0, _), (1, _), (2, _), (3, _), (4, _), (5, _), (6, _), (7, _)]) q136_81 rfl rfl ?_
    refine a_iinc (v := nI (r + 1)) (lv' := [(0, _), (1, _), (2, _), (3, _), (4, _), (5, _), (6, _), (7, _)]) q136_83 rfl rfl (nI_1 (r)) rfl ?_
    refine a_goto (tgt := 32) q136_86 (by decide) ?_
    refine AW.pop_less (x := (7, _)) (lv' := [(0, _), (1, _), (2, _), (3, _), (4, _), (5, _), (6, _)]) ?_
    exact ih hn hn40 hc hv (show r + 1 + m = n by omega) hq

theorem c_L_kind {X : XS} {I : Nat → Int32} {A : Nat → Nat → Int32} {L : Nat → Nat → Int64} {O : AH} {Q : AO → AH → Prop} {n c : Nat} (hn : A 30 0 = nI n) (hn40 : n ≤ 40) (hc : c < 6) (hv : ∀ r, r < n → isVal (nv A c r)) (hq : Q (.inl (some (.int (nkd A n c)))) (hp I A L O)) : Call X 136 [.ref 0, .int (nI c)] (hp I A L O) Q := by
  refine call_of (by decide) rfl rfl ?_
  refine a_aload_n (i := 0) q136_0 rfl rfl ?_
  refine a_iload_n (i := 1) q136_1 rfl rfl ?_
  refine a_cs2 q136_2 rfl ⟨rfl, rfl⟩ rfl ?_
  refine c_L_many hn hn40 hc hv ?_
  refine ck_r ?_
  refine a_istore_n (i := 2) (lv' := [(0, _), (1, _), (2, _)]) q136_5 rfl rfl rfl ?_
  refine a_aload_n (i := 0) q136_6 rfl rfl ?_
  refine a_iload_n (i := 1) q136_7 rfl rfl ?_
  refine a_cs2 q136_8 rfl ⟨rfl, rfl⟩ rfl ?_
  refine c_L_different_ hn hn40 hc hv ?_
  refine ck_r ?_
  refine a_istore_n (i := 3) (lv' := [(0, _), (1, _), (2, _), (3, _)]) q136_11 rfl rfl rfl ?_
  refine a_sipush (v := (-10000)) q136_12 (by decide) ?_
  refine a_istore (i := 4) (lv' := [(0, _), (1, _), (2, _), (3, _), (4, _)]) q136_15 rfl rfl ?_
  refine AW.cut 27 (b2i (3 < (stCnt (nv A c) n))) (fun zk27 => ?_) ?_
  · skip
    refine a_iload_n (i := 2) q136_17 rfl rfl ?_
    refine a_iconst (v := 3) q136_18 (by decide) ?_
    refine a_icmp_le (tgt := 26) q136_19 (by decide) (fun zc19 => ?_) (fun zc19 => ?_)
    · skip
      refine a_iconst (v := 0) q136_26 (by decide) ?_
      exact cutv zk27 (by have zl := lits; unfold b2i; split <;> first | (simp_all; done) | (simp only [i_lt, i_le, i_eq] at * <;> omega))
    · skip
      refine a_iconst (v := 1) q136_22 (by decide) ?_
      refine a_goto (tgt := 27) q136_23 (by decide) ?_
      exact cutv zk27 (by have zl := lits; unfold b2i; split <;> first | (simp_all; done) | (simp only [i_lt, i_le, i_eq] at * <;> omega))
  refine a_istore (i := 5) (lv' := [(0, _), (1, _), (2, _), (3, _), (4, _), (5, _)]) q136_27 rfl rfl ?_
  refine a_iconst (v := 0) q136_29 (by decide) ?_
  refine a_istore (i := 6) (lv' := [(0, _), (1, _), (2, _), (3, _), (4, _), (5, _), (6, _)]) q136_30 rfl rfl ?_
  exact l_kind n (r := 0) hn hn40 hc hv (Nat.zero_add n) hq

theorem val_n {j : Nat} (h : j ≤ 9999) : isVal (nI j) := by
  have e := nI_toInt (n := j) (by omega)
  have zl := lits
  right
  rw [i_le, i_le, e]; omega
theorem val_m {j : Nat} (h : j < 19999) : isVal (nI j - 9999) := by
  have e : (nI j - 9999).toInt = (j : Int) - 9999 := pk_sub_toInt (b := 9999) (by omega) (by decide)
  have zl := lits
  right
  rw [i_le, i_le, e]; omega
theorem c_L_made {X : XS} {I : Nat → Int32} {A : Nat → Nat → Int32} {L : Nat → Nat → Int64} {O : AH} {Q : AO → AH → Prop} (hX : X.1.1 ≤ 260) {n i c : Nat} (hn : A 30 0 = nI n) (hn40 : n ≤ 40) (hi : i < 900000) (hc : c < 6) (hq : ∀ v, isVal v → Q (.inl (some (.int v))) (hp I A L O)) : Call X 132 [.ref 0, .ref 1003, .int (nI i), .int (nI c)] (hp I A L O) Q := by
  refine call_of (by decide) rfl rfl ?_
  refine a_aload_n (i := 1) q132_0 rfl rfl ?_
  refine a_iconst (v := 1) q132_1 (by decide) ?_
  refine a_iload_n (i := 3) q132_2 rfl rfl ?_
  refine a_iadd q132_3 ?_
  refine AW.ti (nI_add 1 c) ?_
  refine a_iconst (v := 5) q132_4 (by decide) ?_
  refine a_cs3 q132_5 rfl ⟨rfl, rfl⟩ rfl ?_
  refine c_L_in hX (i := 1 + c) (m := 5) (by omega) (by omega) (by omega) (fun w hw => ?_)
  refine ck_r ?_
  refine a_istore (i := 4) (lv' := [(0, _), (1, _), (2, _), (3, _), (4, _)]) q132_8 rfl rfl ?_
  refine a_aload_n (i := 1) q132_10 rfl rfl ?_
  refine a_iload_n (i := 2) q132_11 rfl rfl ?_
  refine a_bipush (v := 7) q132_12 (by decide) ?_
  refine a_cs3 q132_14 rfl ⟨rfl, rfl⟩ rfl ?_
  refine c_L_in hX (i := i) (m := 7) (by omega) (by omega) (by omega) (fun u hu => ?_)
  refine ck_r ?_
  refine a_if_ne (tgt := 24) q132_17 (by decide) (fun zc17 => ?_) (fun zc17 => ?_)
  · skip
    refine a_iload q132_24 rfl ?_
    refine a_if_ne (tgt := 48) q132_26 (by decide) (fun zc26 => ?_) (fun zc26 => ?_)
    · skip
      refine a_iload q132_48 rfl ?_
      refine a_iconst (v := 3) q132_50 (by decide) ?_
      refine a_icmp_ge (tgt := 70) q132_51 (by decide) (fun zc51 => ?_) (fun zc51 => ?_)
      · skip
        refine a_iload q132_70 rfl ?_
        refine a_iconst (v := 3) q132_72 (by decide) ?_
        refine a_icmp_ne (tgt := 93) q132_73 (by decide) (fun zc73 => ?_) (fun zc73 => ?_)
        · skip
          refine a_iconst (v := 4) q132_93 (by decide) ?_
          refine a_ireturn q132_94 (nr_int rfl _) ?_
          exact hq _ (val_n (j := 4) (by decide))
        · skip
          refine a_aload_n (i := 1) q132_76 rfl rfl ?_
          refine a_iload_n (i := 2) q132_77 rfl rfl ?_
          refine a_iconst (v := 1) q132_78 (by decide) ?_
          refine a_iadd q132_79 ?_
          refine AW.ti (nI_add i 1) ?_
          refine a_sipush (v := 19999) q132_80 (by decide) ?_
          refine a_cs3 q132_83 rfl ⟨rfl, rfl⟩ rfl ?_
          refine c_L_in hX (i := i + 1) (m := 19999) (by omega) (by omega) (by omega) (fun j hj => ?_)
          refine ck_r ?_
          refine a_sipush (v := 9999) q132_86 (by decide) ?_
          refine a_isub q132_89 ?_
          refine a_goto (tgt := 94) q132_90 (by decide) ?_
          refine a_ireturn q132_94 (nr_int rfl _) ?_
          exact hq _ (val_m hj)
      · skip
        refine a_aload_n (i := 1) q132_54 rfl rfl ?_
        refine a_iload_n (i := 2) q132_55 rfl rfl ?_
        refine a_iconst (v := 1) q132_56 (by decide) ?_
        refine a_iadd q132_57 ?_
        refine AW.ti (nI_add i 1) ?_
        refine a_iconst (v := 2) q132_58 (by decide) ?_
        refine a_iconst (v := 2) q132_59 (by decide) ?_
        refine a_iload q132_60 rfl ?_
        refine a_imul q132_62 ?_
        refine a_iadd q132_63 ?_
        refine AW.ti (show (2 : Int32) + 2 * nI w = nI (2 + 2 * w) by rw [show (2 : Int32) = nI 2 from rfl, pk_mul, nI_add]) ?_
        refine a_cs3 q132_64 rfl ⟨rfl, rfl⟩ rfl ?_
        refine c_L_in hX (i := i + 1) (m := 2 + 2 * w) (by omega) (by omega) (by omega) (fun j hj => ?_)
        refine ck_r ?_
        refine a_goto (tgt := 94) q132_67 (by decide) ?_
        refine a_ireturn q132_94 (nr_int rfl _) ?_
        exact hq _ (val_n (by omega))
    · skip
      refine a_bipush (v := 10) q132_29 (by decide) ?_
      refine a_aload_n (i := 0) q132_31 rfl rfl ?_
      refine a_iconst (v := 0) q132_32 (by decide) ?_
      refine a_iald' q132_33 rfl (j := 0) rfl (by decide) (by decide) ?_
      refine AW.ti hn ?_
      refine a_imul q132_34 ?_
      refine a_aload_n (i := 1) q132_35 rfl rfl ?_
      refine a_iload_n (i := 2) q132_36 rfl rfl ?_
      refine a_iconst (v := 1) q132_37 (by decide) ?_
      refine a_iadd q132_38 ?_
      refine AW.ti (nI_add i 1) ?_
      refine a_bipush (v := 9) q132_39 (by decide) ?_
      refine a_cs3 q132_41 rfl ⟨rfl, rfl⟩ rfl ?_
      refine c_L_in hX (i := i + 1) (m := 9) (by omega) (by omega) (by omega) (fun j hj => ?_)
      refine ck_r ?_
      refine a_iadd q132_44 ?_
      refine a_goto (tgt := 94) q132_45 (by decide) ?_
      refine a_ireturn q132_94 (nr_int rfl _) ?_
      exact hq _ (by rw [show (10 : Int32) = nI 10 from rfl, pk_mul, nI_add]; exact val_n (by omega))
  · skip
    refine a_sipush (v := (-10000)) q132_20 (by decide) ?_
    refine a_ireturn q132_23 (nr_int rfl _) ?_
    exact hq _ (Or.inl rfl)
