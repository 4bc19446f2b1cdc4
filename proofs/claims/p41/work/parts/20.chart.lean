/-! what a chart breaks and costs, as the class has it -/
theorem AW.cutP {X : XS} {mi pc : Nat} {lv : List (Nat × Value)} {st : List Value} {h : AH} {bc bs : Nat} {Q : AO → AH → Prop} (tgt : Nat) (φ : Prop) (b : (φ → AW X mi tgt lv st h bc bs Q) → AW X mi pc lv st h bc bs Q) (k : φ → AW X mi tgt lv st h bc bs Q) : AW X mi pc lv st h bc bs Q := b k
abbrev kd (A : Nat → Nat → Int32) (c k : Int32) : Int32 := f_kindAt A (g_col c k)
abbrev dlk (k : Int32) : Prop := k = 0 ∨ k = 1
abbrev f_dull (A : Nat → Nat → Int32) (c : Int32) : Prop := dlk (kd A c 0) ∨ dlk (kd A c 1) ∨ dlk (kd A c 2) ∨ dlk (kd A c 3)
abbrev f_forb (I : Nat → Int32) (c k : Int32) : Prop := ¬ c = -1 ∧ ¬ ((I 5 >>> ((c * 4 + k) &&& 31)) &&& 1) = 0
abbrev f_forbs (I : Nat → Int32) (c : Int32) : Prop := f_forb I (g_col c 0) 0 ∨ f_forb I (g_col c 1) 1 ∨ f_forb I (g_col c 2) 2 ∨ f_forb I (g_col c 3) 3
abbrev f_wished (I : Nat → Int32) (c : Int32) : Prop := (I 4 = 45 ∨ I 4 = g_mark c) ∧ (I 3 &&& (g_set c ^^^ (-1))) = 0
abbrev f_hgt (A : Nat → Nat → Int32) (c : Int32) : Prop := kd A c 1 = 4 ∨ g_agg c = 1
def f_fb (I : Nat → Int32) (A : Nat → Nat → Int32) (c : Int32) : Int32 :=
  if kd A c 0 = -1 ∧ kd A c 1 = -1 then 1 else if f_dull A c then 2 else if ¬ kd A c 3 = -1 ∧ ¬ (kd A c 3 = 4 ∧ g_mark c = 112) then 3 else
  if g_mark c = 98 ∧ ¬ ((kd A c 0 = 3 ∨ kd A c 0 = 2) ∧ f_hgt A c) then 4 else if g_mark c = 108 ∧ ¬ ((kd A c 0 = 2 ∨ kd A c 0 = 4) ∧ f_hgt A c) then 5 else
  if g_agg c = 1 ∧ ¬ kd A c 1 = -1 then 6 else if g_agg c = 2 ∧ ¬ (kd A c 1 = 4 ∧ (kd A c 0 = 3 ∨ kd A c 0 = 2)) then 7 else if f_forbs I c then 8 else if f_wished I c then 0 else 9
def f_cc (k c : Int32) : Int32 := if 0 ≤ (k - 2) * 4 + c ∧ (k - 2) * 4 + c < 12 then ro_c ((k - 2) * 4 + c).toNatClampNeg else 0
def g_bit (r b : Int32) : Int32 := if b = 0 then 0 else (1 : Int32) <<< (r &&& 31)
def f_soft (I : Nat → Int32) (A : Nat → Nat → Int32) (c : Int32) : Int32 :=
  ((((((((0 : Int32) ||| g_bit 0 (b2i (g_mark c = 98 ∧ g_agg c = 0))) ||| g_bit 1 (b2i (kd A c 0 = 3 ∧ kd A c 1 = 3))) ||| g_bit 2 (b2i (kd A c 2 = 4))) ||| g_bit 3 (b2i (g_mark c = 112 ∧ g_agg c = 0 ∧ 20 < I 2))) ||| g_bit 4 (b2i (g_mark c = 112 ∧ ¬ g_agg c = 0))) ||| g_bit 5 (b2i (3 ≤ g_bc (g_set c)))) ||| g_bit 6 (b2i (kd A c 2 = 3 ∧ 4 < f_differentIn A (g_col c 2)))) ||| g_bit 7 (b2i (kd A c 0 = -1 ∨ kd A c 1 = -1))
def addW (w : Nat → Int32) (b : Int32) : Nat → Int32 → Int32
  | 0, acc => acc
  | n + 1, acc => addW w b n (if ((b >>> (nI (7 - n) &&& 31)) &&& 1) = 0 then acc else acc + w (7 - n))
def f_gap (L : Nat → Nat → Int64) (c : Int32) : Int64 := ((((0 : Int64) ||| f_gapsIn L (g_col c 0)) ||| f_gapsIn L (g_col c 1)) ||| f_gapsIn L (g_col c 2)) ||| f_gapsIn L (g_col c 3)
def f_base (A : Nat → Nat → Int32) (c : Int32) : Int32 := ((((0 : Int32) + f_cc (kd A c 0) 0) + f_cc (kd A c 1) 1) + f_cc (kd A c 2) 2) + f_cc (kd A c 3) 3
def f_cost (I : Nat → Int32) (A : Nat → Nat → Int32) (L : Nat → Nat → Int64) (c : Int32) : Int32 := addW (A 11) (f_soft I A c) 8 (f_base A c + g_lc (f_gap L c) / 5)

theorem c_X3_isForbidden {X : XS} {I : Nat → Int32} {A : Nat → Nat → Int32} {L : Nat → Nat → Int64} {O : AH} {Q : AO → AH → Prop} {c k : Int32} (hq : Q (.inl (some (.int (b2i (f_forb I c k))))) (hp I A L O)) : Call X 26 [.ref 10, .int c, .int k] (hp I A L O) Q := by
  refine call_of (by decide) rfl rfl ?_
  refine a_iload_n (i := 1) q26_0 rfl rfl ?_
  refine a_iconst (v := (-1)) q26_1 (by decide) ?_
  refine a_icmp_eq (tgt := 24) q26_2 (by decide) (fun zc2 => ?_) (fun zc2 => ?_)
  · skip
    refine a_iconst (v := 0) q26_24 (by decide) ?_
    refine a_ireturn q26_25 (nr_bool rfl (by decide)) ?_
    exact lfi hq (by clear hq; have zl := lits; unfold b2i; split <;> ((try simp only [b2i_z] at *) <;> (simp only [isCol, isChan, f_forb, f_forbs, f_dull, f_wished, kd, dlk, f_hgt, b2i_z, i_lt, i_le, i_eq] at * <;> omega)))
  · skip
    refine a_aload_n (i := 0) q26_5 rfl rfl ?_
    refine a_getfield q26_6 rfl rfl ?_
    refine a_iload_n (i := 1) q26_9 rfl rfl ?_
    refine a_iconst (v := 4) q26_10 (by decide) ?_
    refine a_imul q26_11 ?_
    refine a_iload_n (i := 2) q26_12 rfl rfl ?_
    refine a_iadd q26_13 ?_
    refine a_ishr q26_14 ?_
    refine a_iconst (v := 1) q26_15 (by decide) ?_
    refine a_iand q26_16 ?_
    refine a_if_eq (tgt := 24) q26_17 (by decide) (fun zc17 => ?_) (fun zc17 => ?_)
    · skip
      refine a_iconst (v := 0) q26_24 (by decide) ?_
      refine a_ireturn q26_25 (nr_bool rfl (by decide)) ?_
      exact lfi hq (by clear hq; have zl := lits; unfold b2i; split <;> ((try simp only [b2i_z] at *) <;> (simp only [isCol, isChan, f_forb, f_forbs, f_dull, f_wished, kd, dlk, f_hgt, b2i_z, i_lt, i_le, i_eq] at * <;> omega)))
    · skip
      refine a_iconst (v := 1) q26_20 (by decide) ?_
      refine a_goto (tgt := 25) q26_21 (by decide) ?_
      refine a_ireturn q26_25 (nr_bool rfl (by decide)) ?_
      exact lfi hq (by clear hq; have zl := lits; unfold b2i; split <;> ((try simp only [b2i_z] at *) <;> (simp only [isCol, isChan, f_forb, f_forbs, f_dull, f_wished, kd, dlk, f_hgt, b2i_z, i_lt, i_le, i_eq] at * <;> omega)))

theorem c_X3_hasDullColumn {X : XS} {I : Nat → Int32} {A : Nat → Nat → Int32} {L : Nat → Nat → Int64} {O : AH} {Q : AO → AH → Prop} {c : Int32} (hq : Q (.inl (some (.int (b2i (f_dull A c))))) (hp I A L O)) : Call X 30 [.ref 10, .int c] (hp I A L O) Q := by
  refine call_of (by decide) rfl rfl ?_
  refine a_iconst (v := 0) q30_0 (by decide) ?_
  refine a_istore_n (i := 2) (lv' := [(0, _), (1, _), (2, _)]) q30_1 rfl rfl rfl ?_
  refine a_iload_n (i := 2) q30_2 rfl rfl ?_
  refine a_iconst (v := 4) q30_3 (by decide) ?_
  refine a_icmp_ge (tgt := 33) q30_4 (by decide) (fun zc4 => absurd zc4 (by decide)) (fun zc4 => ?_)
  refine a_aload_n (i := 0) q30_7 rfl rfl ?_
  refine a_getfield q30_8 rfl rfl ?_
  refine a_iload_n (i := 1) q30_11 rfl rfl ?_
  refine a_iload_n (i := 2) q30_12 rfl rfl ?_
  refine a_cs2 q30_13 rfl ⟨rfl, rfl⟩ rfl ?_
  refine c_X1_columnIn ?_
  refine ck_r ?_
  refine a_cv1 q30_16 rfl rfl ⟨rfl, rfl⟩ rfl ?_
  refine c_X7_kindAt ?_
  refine ck_r ?_
  refine a_cs1 q30_19 rfl ⟨rfl, rfl⟩ rfl ?_
  refine c_X7_isDullKind ?_
  refine ck_r ?_
  refine a_if_eq (tgt := 27) q30_22 (by decide) (fun zc22 => ?_) (fun zc22 => ?_)
  · skip
    refine a_iinc (lv' := [(0, _), (1, _), (2, _)]) q30_27 rfl rfl rfl rfl ?_
    refine a_goto (tgt := 2) q30_30 (by decide) ?_
    refine a_iload_n (i := 2) q30_2 rfl rfl ?_
    refine a_iconst (v := 4) q30_3 (by decide) ?_
    refine a_icmp_ge (tgt := 33) q30_4 (by decide) (fun zc4_1 => absurd zc4_1 (by decide)) (fun zc4_1 => ?_)
    refine a_aload_n (i := 0) q30_7 rfl rfl ?_
    refine a_getfield q30_8 rfl rfl ?_
    refine a_iload_n (i := 1) q30_11 rfl rfl ?_
    refine a_iload_n (i := 2) q30_12 rfl rfl ?_
    refine a_cs2 q30_13 rfl ⟨rfl, rfl⟩ rfl ?_
    refine c_X1_columnIn ?_
    refine ck_r ?_
    refine a_cv1 q30_16 rfl rfl ⟨rfl, rfl⟩ rfl ?_
    refine c_X7_kindAt ?_
    refine ck_r ?_
    refine a_cs1 q30_19 rfl ⟨rfl, rfl⟩ rfl ?_
    refine c_X7_isDullKind ?_
    refine ck_r ?_
    refine a_if_eq (tgt := 27) q30_22 (by decide) (fun zc22_1 => ?_) (fun zc22_1 => ?_)
    · skip
      refine a_iinc (lv' := [(0, _), (1, _), (2, _)]) q30_27 rfl rfl rfl rfl ?_
      refine a_goto (tgt := 2) q30_30 (by decide) ?_
      refine a_iload_n (i := 2) q30_2 rfl rfl ?_
      refine a_iconst (v := 4) q30_3 (by decide) ?_
      refine a_icmp_ge (tgt := 33) q30_4 (by decide) (fun zc4_2 => absurd zc4_2 (by decide)) (fun zc4_2 => ?_)
      refine a_aload_n (i := 0) q30_7 rfl rfl ?_
      refine a_getfield q30_8 rfl rfl ?_
      refine a_iload_n (i := 1) q30_11 rfl rfl ?_
      refine a_iload_n (i := 2) q30_12 rfl rfl ?_
      refine a_cs2 q30_13 rfl ⟨rfl, rfl⟩ rfl ?_
      refine c_X1_columnIn ?_
      refine ck_r ?_
      refine a_cv1 q30_16 rfl rfl ⟨rfl, rfl⟩ rfl ?_
      refine c_X7_kindAt ?_
      refine ck_r ?_
      refine a_cs1 q30_19 rfl ⟨rfl, rfl⟩ rfl ?_
      refine c_X7_isDullKind ?_
      refine ck_r ?_
      refine a_if_eq (tgt := 27) q30_22 (by decide) (fun zc22_2 => ?_) (fun zc22_2 => ?_)
      · skip
        refine a_iinc (lv' := [(0, _), (1, _), (2, _)]) q30_27 rfl rfl rfl rfl ?_
        refine a_goto (tgt := 2) q30_30 (by decide) ?_
        refine a_iload_n (i := 2) q30_2 rfl rfl ?_
        refine a_iconst (v := 4) q30_3 (by decide) ?_
        refine a_icmp_ge (tgt := 33) q30_4 (by decide) (fun zc4_3 => absurd zc4_3 (by decide)) (fun zc4_3 => ?_)
        refine a_aload_n (i := 0) q30_7 rfl rfl ?_
        refine a_getfield q30_8 rfl rfl ?_
        refine a_iload_n (i := 1) q30_11 rfl rfl ?_
        refine a_iload_n (i := 2) q30_12 rfl rfl ?_
        refine a_cs2 q30_13 rfl ⟨rfl, rfl⟩ rfl ?_
        refine c_X1_columnIn ?_
        refine ck_r ?_
        refine a_cv1 q30_16 rfl rfl ⟨rfl, rfl⟩ rfl ?_
        refine c_X7_kindAt ?_
        refine ck_r ?_
        refine a_cs1 q30_19 rfl ⟨rfl, rfl⟩ rfl ?_
        refine c_X7_isDullKind ?_
        refine ck_r ?_
        refine a_if_eq (tgt := 27) q30_22 (by decide) (fun zc22_3 => ?_) (fun zc22_3 => ?_)
        · skip
          refine a_iinc (lv' := [(0, _), (1, _), (2, _)]) q30_27 rfl rfl rfl rfl ?_
          refine a_goto (tgt := 2) q30_30 (by decide) ?_
          refine a_iload_n (i := 2) q30_2 rfl rfl ?_
          refine a_iconst (v := 4) q30_3 (by decide) ?_
          refine a_icmp_ge (tgt := 33) q30_4 (by decide) (fun zc4_4 => ?_) (fun zc4_4 => absurd (by decide) zc4_4)
          refine a_iconst (v := 0) q30_33 (by decide) ?_
          refine a_ireturn q30_34 (nr_bool rfl (by decide)) ?_
          exact lfi hq (b2i_f (p := f_dull A c) (fun zh => zh.elim (b2i_z.mp zc22) (fun zh => zh.elim (b2i_z.mp zc22_1) (fun zh => zh.elim (b2i_z.mp zc22_2) (b2i_z.mp zc22_3))))).symm
        · skip
          refine a_iconst (v := 1) q30_25 (by decide) ?_
          refine a_ireturn q30_26 (nr_bool rfl (by decide)) ?_
          exact lfi hq (b2i_t (p := f_dull A c) (Or.inr (Or.inr (Or.inr (b2i_nz.mp zc22_3))))).symm
      · skip
        refine a_iconst (v := 1) q30_25 (by decide) ?_
        refine a_ireturn q30_26 (nr_bool rfl (by decide)) ?_
        exact lfi hq (b2i_t (p := f_dull A c) (Or.inr (Or.inr (Or.inl (b2i_nz.mp zc22_2))))).symm
    · skip
      refine a_iconst (v := 1) q30_25 (by decide) ?_
      refine a_ireturn q30_26 (nr_bool rfl (by decide)) ?_
      exact lfi hq (b2i_t (p := f_dull A c) (Or.inr (Or.inl (b2i_nz.mp zc22_1)))).symm
  · skip
    refine a_iconst (v := 1) q30_25 (by decide) ?_
    refine a_ireturn q30_26 (nr_bool rfl (by decide)) ?_
    exact lfi hq (b2i_t (p := f_dull A c) (Or.inl (b2i_nz.mp zc22))).symm

theorem c_X3_hasForbiddenColumn {X : XS} {I : Nat → Int32} {A : Nat → Nat → Int32} {L : Nat → Nat → Int64} {O : AH} {Q : AO → AH → Prop} {c : Int32} (hq : Q (.inl (some (.int (b2i (f_forbs I c))))) (hp I A L O)) : Call X 31 [.ref 10, .int c] (hp I A L O) Q := by
  refine call_of (by decide) rfl rfl ?_
  refine a_iconst (v := 0) q31_0 (by decide) ?_
  refine a_istore_n (i := 2) (lv' := [(0, _), (1, _), (2, _)]) q31_1 rfl rfl rfl ?_
  refine a_iload_n (i := 2) q31_2 rfl rfl ?_
  refine a_iconst (v := 4) q31_3 (by decide) ?_
  refine a_icmp_ge (tgt := 28) q31_4 (by decide) (fun zc4 => absurd zc4 (by decide)) (fun zc4 => ?_)
  refine a_aload_n (i := 0) q31_7 rfl rfl ?_
  refine a_iload_n (i := 1) q31_8 rfl rfl ?_
  refine a_iload_n (i := 2) q31_9 rfl rfl ?_
  refine a_cs2 q31_10 rfl ⟨rfl, rfl⟩ rfl ?_
  refine c_X1_columnIn ?_
  refine ck_r ?_
  refine a_iload_n (i := 2) q31_13 rfl rfl ?_
  refine a_cv2 q31_14 rfl rfl ⟨rfl, rfl⟩ rfl ?_
  refine c_X3_isForbidden ?_
  refine ck_r ?_
  refine a_if_eq (tgt := 22) q31_17 (by decide) (fun zc17 => ?_) (fun zc17 => ?_)
  · skip
    refine a_iinc (lv' := [(0, _), (1, _), (2, _)]) q31_22 rfl rfl rfl rfl ?_
    refine a_goto (tgt := 2) q31_25 (by decide) ?_
    refine a_iload_n (i := 2) q31_2 rfl rfl ?_
    refine a_iconst (v := 4) q31_3 (by decide) ?_
    refine a_icmp_ge (tgt := 28) q31_4 (by decide) (fun zc4_1 => absurd zc4_1 (by decide)) (fun zc4_1 => ?_)
    refine a_aload_n (i := 0) q31_7 rfl rfl ?_
    refine a_iload_n (i := 1) q31_8 rfl rfl ?_
    refine a_iload_n (i := 2) q31_9 rfl rfl ?_
    refine a_cs2 q31_10 rfl ⟨rfl, rfl⟩ rfl ?_
    refine c_X1_columnIn ?_
    refine ck_r ?_
    refine a_iload_n (i := 2) q31_13 rfl rfl ?_
    refine a_cv2 q31_14 rfl rfl ⟨rfl, rfl⟩ rfl ?_
    refine c_X3_isForbidden ?_
    refine ck_r ?_
    refine a_if_eq (tgt := 22) q31_17 (by decide) (fun zc17_1 => ?_) (fun zc17_1 => ?_)
    · skip
      refine a_iinc (lv' := [(0, _), (1, _), (2, _)]) q31_22 rfl rfl rfl rfl ?_
      refine a_goto (tgt := 2) q31_25 (by decide) ?_
      refine a_iload_n (i := 2) q31_2 rfl rfl ?_
      refine a_iconst (v := 4) q31_3 (by decide) ?_
      refine a_icmp_ge (tgt := 28) q31_4 (by decide) (fun zc4_2 => absurd zc4_2 (by decide)) (fun zc4_2 => ?_)
      refine a_aload_n (i := 0) q31_7 rfl rfl ?_
      refine a_iload_n (i := 1) q31_8 rfl rfl ?_
      refine a_iload_n (i := 2) q31_9 rfl rfl ?_
      refine a_cs2 q31_10 rfl ⟨rfl, rfl⟩ rfl ?_
      refine c_X1_columnIn ?_
      refine ck_r ?_
      refine a_iload_n (i := 2) q31_13 rfl rfl ?_
      refine a_cv2 q31_14 rfl rfl ⟨rfl, rfl⟩ rfl ?_
      refine c_X3_isForbidden ?_
      refine ck_r ?_
      refine a_if_eq (tgt := 22) q31_17 (by decide) (fun zc17_2 => ?_) (fun zc17_2 => ?_)
      · skip
        refine a_iinc (lv' := [(0, _), (1, _), (2, _)]) q31_22 rfl rfl rfl rfl ?_
        refine a_goto (tgt := 2) q31_25 (by decide) ?_
        refine a_iload_n (i := 2) q31_2 rfl rfl ?_
        refine a_iconst (v := 4) q31_3 (by decide) ?_
        refine a_icmp_ge (tgt := 28) q31_4 (by decide) (fun zc4_3 => absurd zc4_3 (by decide)) (fun zc4_3 => ?_)
        refine a_aload_n (i := 0) q31_7 rfl rfl ?_
        refine a_iload_n (i := 1) q31_8 rfl rfl ?_
        refine a_iload_n (i := 2) q31_9 rfl rfl ?_
        refine a_cs2 q31_10 rfl ⟨rfl, rfl⟩ rfl ?_
        refine c_X1_columnIn ?_
        refine ck_r ?_
        refine a_iload_n (i := 2) q31_13 rfl rfl ?_
        refine a_cv2 q31_14 rfl rfl ⟨rfl, rfl⟩ rfl ?_
        refine c_X3_isForbidden ?_
        refine ck_r ?_
        refine a_if_eq (tgt := 22) q31_17 (by decide) (fun zc17_3 => ?_) (fun zc17_3 => ?_)
        · skip
          refine a_iinc (lv' := [(0, _), (1, _), (2, _)]) q31_22 rfl rfl rfl rfl ?_
          refine a_goto (tgt := 2) q31_25 (by decide) ?_
          refine a_iload_n (i := 2) q31_2 rfl rfl ?_
          refine a_iconst (v := 4) q31_3 (by decide) ?_
          refine a_icmp_ge (tgt := 28) q31_4 (by decide) (fun zc4_4 => ?_) (fun zc4_4 => absurd (by decide) zc4_4)
          refine a_iconst (v := 0) q31_28 (by decide) ?_
          refine a_ireturn q31_29 (nr_bool rfl (by decide)) ?_
          exact lfi hq (b2i_f (p := f_forbs I c) (fun zh => zh.elim (b2i_z.mp zc17) (fun zh => zh.elim (b2i_z.mp zc17_1) (fun zh => zh.elim (b2i_z.mp zc17_2) (b2i_z.mp zc17_3))))).symm
        · skip
          refine a_iconst (v := 1) q31_20 (by decide) ?_
          refine a_ireturn q31_21 (nr_bool rfl (by decide)) ?_
          exact lfi hq (b2i_t (p := f_forbs I c) (Or.inr (Or.inr (Or.inr (b2i_nz.mp zc17_3))))).symm
      · skip
        refine a_iconst (v := 1) q31_20 (by decide) ?_
        refine a_ireturn q31_21 (nr_bool rfl (by decide)) ?_
        exact lfi hq (b2i_t (p := f_forbs I c) (Or.inr (Or.inr (Or.inl (b2i_nz.mp zc17_2))))).symm
    · skip
      refine a_iconst (v := 1) q31_20 (by decide) ?_
      refine a_ireturn q31_21 (nr_bool rfl (by decide)) ?_
      exact lfi hq (b2i_t (p := f_forbs I c) (Or.inr (Or.inl (b2i_nz.mp zc17_1)))).symm
  · skip
    refine a_iconst (v := 1) q31_20 (by decide) ?_
    refine a_ireturn q31_21 (nr_bool rfl (by decide)) ?_
    exact lfi hq (b2i_t (p := f_forbs I c) (Or.inl (b2i_nz.mp zc17))).symm

theorem c_X3_isAsWished {X : XS} {I : Nat → Int32} {A : Nat → Nat → Int32} {L : Nat → Nat → Int64} {O : AH} {Q : AO → AH → Prop} {c : Int32} (hq : Q (.inl (some (.int (b2i (f_wished I c))))) (hp I A L O)) : Call X 32 [.ref 10, .int c] (hp I A L O) Q := by
  refine call_of (by decide) rfl rfl ?_
  refine AW.cut 25 (b2i (I 4 = 45 ∨ I 4 = g_mark c)) (fun zk25 => ?_) ?_
  · skip
    refine a_aload_n (i := 0) q32_0 rfl rfl ?_
    refine a_getfield q32_1 rfl rfl ?_
    refine a_bipush (v := 45) q32_4 (by decide) ?_
    refine a_icmp_eq (tgt := 20) q32_6 (by decide) (fun zc6 => ?_) (fun zc6 => ?_)
    · skip
      refine a_iconst (v := 1) q32_20 (by decide) ?_
      refine a_goto (tgt := 25) q32_21 (by decide) ?_
      exact cutv zk25 (by clear zk25 hq; have zl := lits; unfold b2i; split <;> ((try simp only [b2i_z] at *) <;> (simp only [isCol, isChan, f_forb, f_forbs, f_dull, f_wished, kd, dlk, f_hgt, b2i_z, i_lt, i_le, i_eq] at * <;> omega)))
    · skip
      refine a_aload_n (i := 0) q32_9 rfl rfl ?_
      refine a_getfield q32_10 rfl rfl ?_
      refine a_iload_n (i := 1) q32_13 rfl rfl ?_
      refine a_cs1 q32_14 rfl ⟨rfl, rfl⟩ rfl ?_
      refine c_X1_markOf ?_
      refine ck_r ?_
      refine a_icmp_ne (tgt := 24) q32_17 (by decide) (fun zc17 => ?_) (fun zc17 => ?_)
      · skip
        refine a_iconst (v := 0) q32_24 (by decide) ?_
        exact cutv zk25 (by clear zk25 hq; have zl := lits; unfold b2i; split <;> ((try simp only [b2i_z] at *) <;> (simp only [isCol, isChan, f_forb, f_forbs, f_dull, f_wished, kd, dlk, f_hgt, b2i_z, i_lt, i_le, i_eq] at * <;> omega)))
      · skip
        refine a_iconst (v := 1) q32_20 (by decide) ?_
        refine a_goto (tgt := 25) q32_21 (by decide) ?_
        exact cutv zk25 (by clear zk25 hq; have zl := lits; unfold b2i; split <;> ((try simp only [b2i_z] at *) <;> (simp only [isCol, isChan, f_forb, f_forbs, f_dull, f_wished, kd, dlk, f_hgt, b2i_z, i_lt, i_le, i_eq] at * <;> omega)))
  refine a_istore_n (i := 2) (lv' := [(0, _), (1, _), (2, _)]) q32_25 rfl rfl rfl ?_
  refine a_iload_n (i := 2) q32_26 rfl rfl ?_
  refine a_if_eq (tgt := 48) q32_27 (by decide) (fun zc27 => ?_) (fun zc27 => ?_)
  · skip
    refine a_iconst (v := 0) q32_48 (by decide) ?_
    refine a_ireturn q32_49 (nr_bool rfl (by decide)) ?_
    exact lfi hq (by clear hq; have zl := lits; unfold b2i; split <;> (simp only [f_wished, b2i_z] at * <;> simp_all))
  · skip
    refine a_aload_n (i := 0) q32_30 rfl rfl ?_
    refine a_getfield q32_31 rfl rfl ?_
    refine a_iload_n (i := 1) q32_34 rfl rfl ?_
    refine a_cs1 q32_35 rfl ⟨rfl, rfl⟩ rfl ?_
    refine c_X1_columnSet ?_
    refine ck_r ?_
    refine a_iconst (v := (-1)) q32_38 (by decide) ?_
    refine a_ixor q32_39 ?_
    refine a_iand q32_40 ?_
    refine a_if_ne (tgt := 48) q32_41 (by decide) (fun zc41 => ?_) (fun zc41 => ?_)
    · skip
      refine a_iconst (v := 0) q32_48 (by decide) ?_
      refine a_ireturn q32_49 (nr_bool rfl (by decide)) ?_
      exact lfi hq (by clear hq; have zl := lits; unfold b2i; split <;> (simp only [f_wished, b2i_z] at * <;> simp_all))
    · skip
      refine a_iconst (v := 1) q32_44 (by decide) ?_
      refine a_goto (tgt := 49) q32_45 (by decide) ?_
      refine a_ireturn q32_49 (nr_bool rfl (by decide)) ?_
      exact lfi hq (by clear hq; have zl := lits; unfold b2i; split <;> (simp only [f_wished, b2i_z] at * <;> simp_all))

theorem c_X3_firstBroken {X : XS} {I : Nat → Int32} {A : Nat → Nat → Int32} {L : Nat → Nat → Int64} {O : AH} {Q : AO → AH → Prop} {c : Int32} (hq : Q (.inl (some (.int (f_fb I A c)))) (hp I A L O)) : Call X 29 [.ref 10, .int c] (hp I A L O) Q := by
  refine call_of (by decide) rfl rfl ?_
  refine a_iload_n (i := 1) q29_0 rfl rfl ?_
  refine a_cs1 q29_1 rfl ⟨rfl, rfl⟩ rfl ?_
  refine c_X1_markOf ?_
  refine ck_r ?_
  refine a_istore_n (i := 2) (lv' := [(0, _), (1, _), (2, _)]) q29_4 rfl rfl rfl ?_
  refine a_iload_n (i := 1) q29_5 rfl rfl ?_
  refine a_cs1 q29_6 rfl ⟨rfl, rfl⟩ rfl ?_
  refine c_X1_aggregateOf ?_
  refine ck_r ?_
  refine a_istore_n (i := 3) (lv' := [(0, _), (1, _), (2, _), (3, _)]) q29_9 rfl rfl rfl ?_
  refine a_aload_n (i := 0) q29_10 rfl rfl ?_
  refine a_getfield q29_11 rfl rfl ?_
  refine a_iload_n (i := 1) q29_14 rfl rfl ?_
  refine a_iconst (v := 0) q29_15 (by decide) ?_
  refine a_cs2 q29_16 rfl ⟨rfl, rfl⟩ rfl ?_
  refine c_X1_columnIn ?_
  refine ck_r ?_
  refine a_cv1 q29_19 rfl rfl ⟨rfl, rfl⟩ rfl ?_
  refine c_X7_kindAt ?_
  refine ck_r ?_
  refine a_istore (i := 4) (lv' := [(0, _), (1, _), (2, _), (3, _), (4, _)]) q29_22 rfl rfl ?_
  refine a_aload_n (i := 0) q29_24 rfl rfl ?_
  refine a_getfield q29_25 rfl rfl ?_
  refine a_iload_n (i := 1) q29_28 rfl rfl ?_
  refine a_iconst (v := 1) q29_29 (by decide) ?_
  refine a_cs2 q29_30 rfl ⟨rfl, rfl⟩ rfl ?_
  refine c_X1_columnIn ?_
  refine ck_r ?_
  refine a_cv1 q29_33 rfl rfl ⟨rfl, rfl⟩ rfl ?_
  refine c_X7_kindAt ?_
  refine ck_r ?_
  refine a_istore (i := 5) (lv' := [(0, _), (1, _), (2, _), (3, _), (4, _), (5, _)]) q29_36 rfl rfl ?_
  refine a_aload_n (i := 0) q29_38 rfl rfl ?_
  refine a_getfield q29_39 rfl rfl ?_
  refine a_iload_n (i := 1) q29_42 rfl rfl ?_
  refine a_iconst (v := 3) q29_43 (by decide) ?_
  refine a_cs2 q29_44 rfl ⟨rfl, rfl⟩ rfl ?_
  refine c_X1_columnIn ?_
  refine ck_r ?_
  refine a_cv1 q29_47 rfl rfl ⟨rfl, rfl⟩ rfl ?_
  refine c_X7_kindAt ?_
  refine ck_r ?_
  refine a_istore (i := 6) (lv' := [(0, _), (1, _), (2, _), (3, _), (4, _), (5, _), (6, _)]) q29_50 rfl rfl ?_
  refine AW.cut 68 (b2i (f_hgt A c)) (fun zk68 => ?_) ?_
  · skip
    refine a_iload q29_52 rfl ?_
    refine a_iconst (v := 4) q29_54 (by decide) ?_
    refine a_icmp_eq (tgt := 63) q29_55 (by decide) (fun zc55 => ?_) (fun zc55 => ?_)
    · skip
      refine a_iconst (v := 1) q29_63 (by decide) ?_
      refine a_goto (tgt := 68) q29_64 (by decide) ?_
      exact cutv zk68 (by clear zk68 hq; have zl := lits; unfold b2i; split <;> ((try simp only [b2i_z] at *) <;> (simp only [isCol, isChan, f_forb, f_forbs, f_dull, f_wished, kd, dlk, f_hgt, b2i_z, i_lt, i_le, i_eq] at * <;> omega)))
    · skip
      refine a_iload_n (i := 3) q29_58 rfl rfl ?_
      refine a_iconst (v := 1) q29_59 (by decide) ?_
      refine a_icmp_ne (tgt := 67) q29_60 (by decide) (fun zc60 => ?_) (fun zc60 => ?_)
      · skip
        refine a_iconst (v := 0) q29_67 (by decide) ?_
        exact cutv zk68 (by clear zk68 hq; have zl := lits; unfold b2i; split <;> ((try simp only [b2i_z] at *) <;> (simp only [isCol, isChan, f_forb, f_forbs, f_dull, f_wished, kd, dlk, f_hgt, b2i_z, i_lt, i_le, i_eq] at * <;> omega)))
      · skip
        refine a_iconst (v := 1) q29_63 (by decide) ?_
        refine a_goto (tgt := 68) q29_64 (by decide) ?_
        exact cutv zk68 (by clear zk68 hq; have zl := lits; unfold b2i; split <;> ((try simp only [b2i_z] at *) <;> (simp only [isCol, isChan, f_forb, f_forbs, f_dull, f_wished, kd, dlk, f_hgt, b2i_z, i_lt, i_le, i_eq] at * <;> omega)))
  refine a_istore (i := 7) (lv' := [(0, _), (1, _), (2, _), (3, _), (4, _), (5, _), (6, _), (7, _)]) q29_68 rfl rfl ?_
  refine AW.cutP 84 (¬ (kd A c 0 = -1 ∧ kd A c 1 = -1)) (fun zk84 => ?_) (fun zf84 => ?_)
  · skip
    refine a_iload q29_70 rfl ?_
    refine a_iconst (v := (-1)) q29_72 (by decide) ?_
    refine a_icmp_ne (tgt := 84) q29_73 (by decide) (fun zc73 => ?_) (fun zc73 => ?_)
    · skip
      exact zk84 (by clear zk84 hq; have zl := lits; ((try simp only [b2i_z] at *) <;> (simp only [isCol, isChan, f_forb, f_forbs, f_dull, f_wished, kd, dlk, f_hgt, b2i_z, i_lt, i_le, i_eq] at * <;> omega)))
    · skip
      refine a_iload q29_76 rfl ?_
      refine a_iconst (v := (-1)) q29_78 (by decide) ?_
      refine a_icmp_ne (tgt := 84) q29_79 (by decide) (fun zc79 => ?_) (fun zc79 => ?_)
      · skip
        exact zk84 (by clear zk84 hq; have zl := lits; ((try simp only [b2i_z] at *) <;> (simp only [isCol, isChan, f_forb, f_forbs, f_dull, f_wished, kd, dlk, f_hgt, b2i_z, i_lt, i_le, i_eq] at * <;> omega)))
      · skip
        refine a_iconst (v := 1) q29_82 (by decide) ?_
        refine a_ireturn q29_83 (nr_int rfl _) ?_
        exact lfi hq (by clear hq; have zl := lits; unfold f_fb; rw [if_pos (by ((try simp only [b2i_z] at *) <;> (simp only [isCol, isChan, f_forb, f_forbs, f_dull, f_wished, kd, dlk, f_hgt, b2i_z, i_lt, i_le, i_eq] at * <;> omega)))])
  · skip
    refine AW.cutP 94 (¬ f_dull A c) (fun zk94 => ?_) (fun zf94 => ?_)
    · skip
      refine a_aload_n (i := 0) q29_84 rfl rfl ?_
      refine a_iload_n (i := 1) q29_85 rfl rfl ?_
      refine a_cv1 q29_86 rfl rfl ⟨rfl, rfl⟩ rfl ?_
      refine c_X3_hasDullColumn ?_
      refine ck_r ?_
      refine a_if_eq (tgt := 94) q29_89 (by decide) (fun zc89 => ?_) (fun zc89 => ?_)
      · skip
        exact zk94 (by simp only [b2i_z] at zc89; exact zc89)
      · skip
        refine a_iconst (v := 2) q29_92 (by decide) ?_
        refine a_ireturn q29_93 (nr_int rfl _) ?_
        exact lfi hq (by clear hq; have zl := lits; unfold f_fb; rw [if_neg zf84]; rw [if_pos (b2i_nz.mp zc89)])
    · skip
      refine AW.cutP 114 (¬ (¬ kd A c 3 = -1 ∧ ¬ (kd A c 3 = 4 ∧ g_mark c = 112))) (fun zk114 => ?_) (fun zf114 => ?_)
      · skip
        refine a_iload q29_94 rfl ?_
        refine a_iconst (v := (-1)) q29_96 (by decide) ?_
        refine a_icmp_eq (tgt := 114) q29_97 (by decide) (fun zc97 => ?_) (fun zc97 => ?_)
        · skip
          exact zk114 (by clear zk114 hq; have zl := lits; ((try simp only [b2i_z] at *) <;> (simp only [isCol, isChan, f_forb, f_forbs, f_dull, f_wished, kd, dlk, f_hgt, b2i_z, i_lt, i_le, i_eq] at * <;> omega)))
        · skip
          refine a_iload q29_100 rfl ?_
          refine a_iconst (v := 4) q29_102 (by decide) ?_
          refine a_icmp_ne (tgt := 112) q29_103 (by decide) (fun zc103 => ?_) (fun zc103 => ?_)
          · skip
            refine a_iconst (v := 3) q29_112 (by decide) ?_
            refine a_ireturn q29_113 (nr_int rfl _) ?_
            exact lfi hq (by clear hq; have zl := lits; unfold f_fb; rw [if_neg zf84, if_neg zf94]; rw [if_pos (by ((try simp only [b2i_z] at *) <;> (simp only [isCol, isChan, f_forb, f_forbs, f_dull, f_wished, kd, dlk, f_hgt, b2i_z, i_lt, i_le, i_eq] at * <;> omega)))])
          · skip
            refine a_iload_n (i := 2) q29_106 rfl rfl ?_
            refine a_bipush (v := 112) q29_107 (by decide) ?_
            refine a_icmp_eq (tgt := 114) q29_109 (by decide) (fun zc109 => ?_) (fun zc109 => ?_)
            · skip
              exact zk114 (by clear zk114 hq; have zl := lits; ((try simp only [b2i_z] at *) <;> (simp only [isCol, isChan, f_forb, f_forbs, f_dull, f_wished, kd, dlk, f_hgt, b2i_z, i_lt, i_le, i_eq] at * <;> omega)))
            · skip
              refine a_iconst (v := 3) q29_112 (by decide) ?_
              refine a_ireturn q29_113 (nr_int rfl _) ?_
              exact lfi hq (by clear hq; have zl := lits; unfold f_fb; rw [if_neg zf84, if_neg zf94]; rw [if_pos (by ((try simp only [b2i_z] at *) <;> (simp only [isCol, isChan, f_forb, f_forbs, f_dull, f_wished, kd, dlk, f_hgt, b2i_z, i_lt, i_le, i_eq] at * <;> omega)))])
      · skip
        refine AW.cutP 139 (¬ (g_mark c = 98 ∧ ¬ ((kd A c 0 = 3 ∨ kd A c 0 = 2) ∧ f_hgt A c))) (fun zk139 => ?_) (fun zf139 => ?_)
        · skip
          refine a_iload_n (i := 2) q29_114 rfl rfl ?_
          refine a_bipush (v := 98) q29_115 (by decide) ?_
          refine a_icmp_ne (tgt := 139) q29_117 (by decide) (fun zc117 => ?_) (fun zc117 => ?_)
          · skip
            exact zk139 (by clear zk139 hq; have zl := lits; ((try simp only [b2i_z] at *) <;> (simp only [isCol, isChan, f_forb, f_forbs, f_dull, f_wished, kd, dlk, f_hgt, b2i_z, i_lt, i_le, i_eq] at * <;> omega)))
          · skip
            refine a_iload q29_120 rfl ?_
            refine a_iconst (v := 3) q29_122 (by decide) ?_
            refine a_icmp_eq (tgt := 132) q29_123 (by decide) (fun zc123 => ?_) (fun zc123 => ?_)
            · skip
              refine a_iload q29_132 rfl ?_
              refine a_if_ne (tgt := 139) q29_134 (by decide) (fun zc134 => ?_) (fun zc134 => ?_)
              · skip
                exact zk139 (by clear zk139 hq; have zl := lits; ((try simp only [b2i_z] at *) <;> (simp only [isCol, isChan, f_forb, f_forbs, f_dull, f_wished, kd, dlk, f_hgt, b2i_z, i_lt, i_le, i_eq] at * <;> omega)))
              · skip
                refine a_iconst (v := 4) q29_137 (by decide) ?_
                refine a_ireturn q29_138 (nr_int rfl _) ?_
                exact lfi hq (by clear hq; have zl := lits; unfold f_fb; rw [if_neg zf84, if_neg zf94, if_neg zf114]; rw [if_pos (by ((try simp only [b2i_z] at *) <;> (simp only [isCol, isChan, f_forb, f_forbs, f_dull, f_wished, kd, dlk, f_hgt, b2i_z, i_lt, i_le, i_eq] at * <;> omega)))])
            · skip
              refine a_iload q29_126 rfl ?_
              refine a_iconst (v := 2) q29_128 (by decide) ?_
              refine a_icmp_ne (tgt := 137) q29_129 (by decide) (fun zc129 => ?_) (fun zc129 => ?_)
              · skip
                refine a_iconst (v := 4) q29_137 (by decide) ?_
                refine a_ireturn q29_138 (nr_int rfl _) ?_
                exact lfi hq (by clear hq; have zl := lits; unfold f_fb; rw [if_neg zf84, if_neg zf94, if_neg zf114]; rw [if_pos (by ((try simp only [b2i_z] at *) <;> (simp only [isCol, isChan, f_forb, f_forbs, f_dull, f_wished, kd, dlk, f_hgt, b2i_z, i_lt, i_le, i_eq] at * <;> omega)))])
              · skip
                refine a_iload q29_132 rfl ?_
                refine a_if_ne (tgt := 139) q29_134 (by decide) (fun zc134 => ?_) (fun zc134 => ?_)
                · skip
                  exact zk139 (by clear zk139 hq; have zl := lits; ((try simp only [b2i_z] at *) <;> (simp only [isCol, isChan, f_forb, f_forbs, f_dull, f_wished, kd, dlk, f_hgt, b2i_z, i_lt, i_le, i_eq] at * <;> omega)))
                · skip
                  refine a_iconst (v := 4) q29_137 (by decide) ?_
                  refine a_ireturn q29_138 (nr_int rfl _) ?_
                  exact lfi hq (by clear hq; have zl := lits; unfold f_fb; rw [if_neg zf84, if_neg zf94, if_neg zf114]; rw [if_pos (by ((try simp only [b2i_z] at *) <;> (simp only [isCol, isChan, f_forb, f_forbs, f_dull, f_wished, kd, dlk, f_hgt, b2i_z, i_lt, i_le, i_eq] at * <;> omega)))])
        · skip
          refine AW.cutP 164 (¬ (g_mark c = 108 ∧ ¬ ((kd A c 0 = 2 ∨ kd A c 0 = 4) ∧ f_hgt A c))) (fun zk164 => ?_) (fun zf164 => ?_)
          · skip
            refine a_iload_n (i := 2) q29_139 rfl rfl ?_
            refine a_bipush (v := 108) q29_140 (by decide) ?_
            refine a_icmp_ne (tgt := 164) q29_142 (by decide) (fun zc142 => ?_) (fun zc142 => ?_)
            · skip
              exact zk164 (by clear zk164 hq; have zl := lits; ((try simp only [b2i_z] at *) <;> (simp only [isCol, isChan, f_forb, f_forbs, f_dull, f_wished, kd, dlk, f_hgt, b2i_z, i_lt, i_le, i_eq] at * <;> omega)))
            · skip
              refine a_iload q29_145 rfl ?_
              refine a_iconst (v := 2) q29_147 (by decide) ?_
              refine a_icmp_eq (tgt := 157) q29_148 (by decide) (fun zc148 => ?_) (fun zc148 => ?_)
              · skip
                refine a_iload q29_157 rfl ?_
                refine a_if_ne (tgt := 164) q29_159 (by decide) (fun zc159 => ?_) (fun zc159 => ?_)
                · skip
                  exact zk164 (by clear zk164 hq; have zl := lits; ((try simp only [b2i_z] at *) <;> (simp only [isCol, isChan, f_forb, f_forbs, f_dull, f_wished, kd, dlk, f_hgt, b2i_z, i_lt, i_le, i_eq] at * <;> omega)))
                · skip
                  refine a_iconst (v := 5) q29_162 (by decide) ?_
                  refine a_ireturn q29_163 (nr_int rfl _) ?_
                  exact lfi hq (by clear hq; have zl := lits; unfold f_fb; rw [if_neg zf84, if_neg zf94, if_neg zf114, if_neg zf139]; rw [if_pos (by ((try simp only [b2i_z] at *) <;> (simp only [isCol, isChan, f_forb, f_forbs, f_dull, f_wished, kd, dlk, f_hgt, b2i_z, i_lt, i_le, i_eq] at * <;> omega)))])
              · skip
                refine a_iload q29_151 rfl ?_
                refine a_iconst (v := 4) q29_153 (by decide) ?_
                refine a_icmp_ne (tgt := 162) q29_154 (by decide) (fun zc154 => ?_) (fun zc154 => ?_)
                · skip
                  refine a_iconst (v := 5) q29_162 (by decide) ?_
                  refine a_ireturn q29_163 (nr_int rfl _) ?_
                  exact lfi hq (by clear hq; have zl := lits; unfold f_fb; rw [if_neg zf84, if_neg zf94, if_neg zf114, if_neg zf139]; rw [if_pos (by ((try simp only [b2i_z] at *) <;> (simp only [isCol, isChan, f_forb, f_forbs, f_dull, f_wished, kd, dlk, f_hgt, b2i_z, i_lt, i_le, i_eq] at * <;> omega)))])
                · skip
                  refine a_iload q29_157 rfl ?_
                  refine a_if_ne (tgt := 164) q29_159 (by decide) (fun zc159 => ?_) (fun zc159 => ?_)
                  · skip
                    exact zk164 (by clear zk164 hq; have zl := lits; ((try simp only [b2i_z] at *) <;> (simp only [isCol, isChan, f_forb, f_forbs, f_dull, f_wished, kd, dlk, f_hgt, b2i_z, i_lt, i_le, i_eq] at * <;> omega)))
                  · skip
                    refine a_iconst (v := 5) q29_162 (by decide) ?_
                    refine a_ireturn q29_163 (nr_int rfl _) ?_
                    exact lfi hq (by clear hq; have zl := lits; unfold f_fb; rw [if_neg zf84, if_neg zf94, if_neg zf114, if_neg zf139]; rw [if_pos (by ((try simp only [b2i_z] at *) <;> (simp only [isCol, isChan, f_forb, f_forbs, f_dull, f_wished, kd, dlk, f_hgt, b2i_z, i_lt, i_le, i_eq] at * <;> omega)))])
          · skip
            refine AW.cutP 178 (¬ (g_agg c = 1 ∧ ¬ kd A c 1 = -1)) (fun zk178 => ?_) (fun zf178 => ?_)
            · skip
              refine a_iload_n (i := 3) q29_164 rfl rfl ?_
              refine a_iconst (v := 1) q29_165 (by decide) ?_
              refine a_icmp_ne (tgt := 178) q29_166 (by decide) (fun zc166 => ?_) (fun zc166 => ?_)
              · skip
                exact zk178 (by clear zk178 hq; have zl := lits; ((try simp only [b2i_z] at *) <;> (simp only [isCol, isChan, f_forb, f_forbs, f_dull, f_wished, kd, dlk, f_hgt, b2i_z, i_lt, i_le, i_eq] at * <;> omega)))
              · skip
                refine a_iload q29_169 rfl ?_
                refine a_iconst (v := (-1)) q29_171 (by decide) ?_
                refine a_icmp_eq (tgt := 178) q29_172 (by decide) (fun zc172 => ?_) (fun zc172 => ?_)
                · skip
                  exact zk178 (by clear zk178 hq; have zl := lits; ((try simp only [b2i_z] at *) <;> (simp only [isCol, isChan, f_forb, f_forbs, f_dull, f_wished, kd, dlk, f_hgt, b2i_z, i_lt, i_le, i_eq] at * <;> omega)))
                · skip
                  refine a_bipush (v := 6) q29_175 (by decide) ?_
                  refine a_ireturn q29_177 (nr_int rfl _) ?_
                  exact lfi hq (by clear hq; have zl := lits; unfold f_fb; rw [if_neg zf84, if_neg zf94, if_neg zf114, if_neg zf139, if_neg zf164]; rw [if_pos (by ((try simp only [b2i_z] at *) <;> (simp only [isCol, isChan, f_forb, f_forbs, f_dull, f_wished, kd, dlk, f_hgt, b2i_z, i_lt, i_le, i_eq] at * <;> omega)))])
            · skip
              refine AW.cutP 204 (¬ (g_agg c = 2 ∧ ¬ (kd A c 1 = 4 ∧ (kd A c 0 = 3 ∨ kd A c 0 = 2)))) (fun zk204 => ?_) (fun zf204 => ?_)
              · skip
                refine a_iload_n (i := 3) q29_178 rfl rfl ?_
                refine a_iconst (v := 2) q29_179 (by decide) ?_
                refine a_icmp_ne (tgt := 204) q29_180 (by decide) (fun zc180 => ?_) (fun zc180 => ?_)
                · skip
                  exact zk204 (by clear zk204 hq; have zl := lits; ((try simp only [b2i_z] at *) <;> (simp only [isCol, isChan, f_forb, f_forbs, f_dull, f_wished, kd, dlk, f_hgt, b2i_z, i_lt, i_le, i_eq] at * <;> omega)))
                · skip
                  refine a_iload q29_183 rfl ?_
                  refine a_iconst (v := 4) q29_185 (by decide) ?_
                  refine a_icmp_ne (tgt := 201) q29_186 (by decide) (fun zc186 => ?_) (fun zc186 => ?_)
                  · skip
                    refine a_bipush (v := 7) q29_201 (by decide) ?_
                    refine a_ireturn q29_203 (nr_int rfl _) ?_
                    exact lfi hq (by clear hq; have zl := lits; unfold f_fb; rw [if_neg zf84, if_neg zf94, if_neg zf114, if_neg zf139, if_neg zf164, if_neg zf178]; rw [if_pos (by ((try simp only [b2i_z] at *) <;> (simp only [isCol, isChan, f_forb, f_forbs, f_dull, f_wished, kd, dlk, f_hgt, b2i_z, i_lt, i_le, i_eq] at * <;> omega)))])
                  · skip
                    refine a_iload q29_189 rfl ?_
                    refine a_iconst (v := 3) q29_191 (by decide) ?_
                    refine a_icmp_eq (tgt := 204) q29_192 (by decide) (fun zc192 => ?_) (fun zc192 => ?_)
                    · skip
                      exact zk204 (by clear zk204 hq; have zl := lits; ((try simp only [b2i_z] at *) <;> (simp only [isCol, isChan, f_forb, f_forbs, f_dull, f_wished, kd, dlk, f_hgt, b2i_z, i_lt, i_le, i_eq] at * <;> omega)))
                    · skip
                      refine a_iload q29_195 rfl ?_
                      refine a_iconst (v := 2) q29_197 (by decide) ?_
                      refine a_icmp_eq (tgt := 204) q29_198 (by decide) (fun zc198 => ?_) (fun zc198 => ?_)
                      · skip
                        exact zk204 (by clear zk204 hq; have zl := lits; ((try simp only [b2i_z] at *) <;> (simp only [isCol, isChan, f_forb, f_forbs, f_dull, f_wished, kd, dlk, f_hgt, b2i_z, i_lt, i_le, i_eq] at * <;> omega)))
                      · skip
                        refine a_bipush (v := 7) q29_201 (by decide) ?_
                        refine a_ireturn q29_203 (nr_int rfl _) ?_
                        exact lfi hq (by clear hq; have zl := lits; unfold f_fb; rw [if_neg zf84, if_neg zf94, if_neg zf114, if_neg zf139, if_neg zf164, if_neg zf178]; rw [if_pos (by ((try simp only [b2i_z] at *) <;> (simp only [isCol, isChan, f_forb, f_forbs, f_dull, f_wished, kd, dlk, f_hgt, b2i_z, i_lt, i_le, i_eq] at * <;> omega)))])
              · skip
                refine AW.cutP 215 (¬ f_forbs I c) (fun zk215 => ?_) (fun zf215 => ?_)
                · skip
                  refine a_aload_n (i := 0) q29_204 rfl rfl ?_
                  refine a_iload_n (i := 1) q29_205 rfl rfl ?_
                  refine a_cv1 q29_206 rfl rfl ⟨rfl, rfl⟩ rfl ?_
                  refine c_X3_hasForbiddenColumn ?_
                  refine ck_r ?_
                  refine a_if_eq (tgt := 215) q29_209 (by decide) (fun zc209 => ?_) (fun zc209 => ?_)
                  · skip
                    exact zk215 (by simp only [b2i_z] at zc209; exact zc209)
                  · skip
                    refine a_bipush (v := 8) q29_212 (by decide) ?_
                    refine a_ireturn q29_214 (nr_int rfl _) ?_
                    exact lfi hq (by clear hq; have zl := lits; unfold f_fb; rw [if_neg zf84, if_neg zf94, if_neg zf114, if_neg zf139, if_neg zf164, if_neg zf178, if_neg zf204]; rw [if_pos (b2i_nz.mp zc209)])
                · skip
                  refine a_aload_n (i := 0) q29_215 rfl rfl ?_
                  refine a_iload_n (i := 1) q29_216 rfl rfl ?_
                  refine a_cv1 q29_217 rfl rfl ⟨rfl, rfl⟩ rfl ?_
                  refine c_X3_isAsWished ?_
                  refine ck_r ?_
                  refine a_if_eq (tgt := 227) q29_220 (by decide) (fun zc220 => ?_) (fun zc220 => ?_)
                  · skip
                    refine a_bipush (v := 9) q29_227 (by decide) ?_
                    refine a_ireturn q29_229 (nr_int rfl _) ?_
                    exact lfi hq (by clear hq; have zl := lits; unfold f_fb; rw [if_neg zf84, if_neg zf94, if_neg zf114, if_neg zf139, if_neg zf164, if_neg zf178, if_neg zf204, if_neg zf215]; rw [if_neg (b2i_z.mp zc220)])
                  · skip
                    refine a_iconst (v := 0) q29_223 (by decide) ?_
                    refine a_goto (tgt := 229) q29_224 (by decide) ?_
                    refine a_ireturn q29_229 (nr_int rfl _) ?_
                    exact lfi hq (by clear hq; have zl := lits; unfold f_fb; rw [if_neg zf84, if_neg zf94, if_neg zf114, if_neg zf139, if_neg zf164, if_neg zf178, if_neg zf204, if_neg zf215]; rw [if_pos (b2i_nz.mp zc220)])

theorem c_X3_allows {X : XS} {I : Nat → Int32} {A : Nat → Nat → Int32} {L : Nat → Nat → Int64} {O : AH} {Q : AO → AH → Prop} {c : Int32} (hq : Q (.inl (some (.int (b2i (f_fb I A c = 0))))) (hp I A L O)) : Call X 28 [.ref 10, .int c] (hp I A L O) Q := by
  refine call_of (by decide) rfl rfl ?_
  refine a_aload_n (i := 0) q28_0 rfl rfl ?_
  refine a_iload_n (i := 1) q28_1 rfl rfl ?_
  refine a_cv1 q28_2 rfl rfl ⟨rfl, rfl⟩ rfl ?_
  refine c_X3_firstBroken ?_
  refine ck_r ?_
  refine a_if_ne (tgt := 12) q28_5 (by decide) (fun zc5 => ?_) (fun zc5 => ?_)
  · skip
    refine a_iconst (v := 0) q28_12 (by decide) ?_
    refine a_ireturn q28_13 (nr_bool rfl (by decide)) ?_
    exact lfi hq (by clear hq; have zl := lits; unfold b2i; split <;> ((try simp only [b2i_z] at *) <;> (simp only [isCol, isChan, f_forb, f_forbs, f_dull, f_wished, kd, dlk, f_hgt, b2i_z, i_lt, i_le, i_eq] at * <;> omega)))
  · skip
    refine a_iconst (v := 1) q28_8 (by decide) ?_
    refine a_goto (tgt := 13) q28_9 (by decide) ?_
    refine a_ireturn q28_13 (nr_bool rfl (by decide)) ?_
    exact lfi hq (by clear hq; have zl := lits; unfold b2i; split <;> ((try simp only [b2i_z] at *) <;> (simp only [isCol, isChan, f_forb, f_forbs, f_dull, f_wished, kd, dlk, f_hgt, b2i_z, i_lt, i_le, i_eq] at * <;> omega)))

theorem c_X2_channelCost {X : XS} {h : AH} {Q : AO → AH → Prop} {k c : Int32} (hq : Q (.inl (some (.int (f_cc k c)))) h) : Call X 22 [.int k, .int c] h Q := by
  refine call_of (by decide) rfl rfl ?_
  refine a_iload_n (i := 0) q22_0 rfl rfl ?_
  refine a_iconst (v := 2) q22_1 (by decide) ?_
  refine a_isub q22_2 ?_
  refine a_iconst (v := 4) q22_3 (by decide) ?_
  refine a_imul q22_4 ?_
  refine a_iload_n (i := 1) q22_5 rfl rfl ?_
  refine a_iadd q22_6 ?_
  refine a_istore_n (i := 2) (lv' := [(0, _), (1, _), (2, _)]) q22_7 rfl rfl rfl ?_
  refine a_iload_n (i := 2) q22_8 rfl rfl ?_
  refine a_if_lt (tgt := 28) q22_9 (by decide) (fun zc9 => ?_) (fun zc9 => ?_)
  · skip
    refine a_iconst (v := 0) q22_28 (by decide) ?_
    refine a_ireturn q22_29 (nr_int rfl _) ?_
    exact lfi hq (by clear hq; have zl := lits; have zm : (12 : Int32).toInt = 12 := rfl; have zn : (Int32.ofNat (roT (X.1, h.length) 2).2.1).toInt = 12 := rfl; have zo : (roT (X.1, h.length) 2).2.2 = ro_c := rfl; simp only [zo] at *; unfold f_cc; split <;> ((try simp only [b2i_z] at *) <;> (simp only [isCol, isChan, f_forb, f_forbs, f_dull, f_wished, kd, dlk, f_hgt, b2i_z, i_lt, i_le, i_eq] at * <;> omega)))
  · skip
    refine a_iload_n (i := 2) q22_12 rfl rfl ?_
    refine a_getstatic q22_13 ?_
    refine a_alen_ro (j := 2) q22_16 rfl (by decide) rfl ?_
    refine a_icmp_ge (tgt := 28) q22_17 (by decide) (fun zc17 => ?_) (fun zc17 => ?_)
    · skip
      refine a_iconst (v := 0) q22_28 (by decide) ?_
      refine a_ireturn q22_29 (nr_int rfl _) ?_
      exact lfi hq (by clear hq; have zl := lits; have zm : (12 : Int32).toInt = 12 := rfl; have zn : (Int32.ofNat (roT (X.1, h.length) 2).2.1).toInt = 12 := rfl; have zo : (roT (X.1, h.length) 2).2.2 = ro_c := rfl; simp only [zo] at *; unfold f_cc; split <;> ((try simp only [b2i_z] at *) <;> (simp only [isCol, isChan, f_forb, f_forbs, f_dull, f_wished, kd, dlk, f_hgt, b2i_z, i_lt, i_le, i_eq] at * <;> omega)))
    · skip
      refine a_getstatic q22_20 ?_
      refine a_iload_n (i := 2) q22_23 rfl rfl ?_
      refine a_iald_ro (j := 2) q22_24 rfl (by decide) (vpi (N := 12) zc9 zc17 rfl) ?_
      refine a_goto (tgt := 29) q22_25 (by decide) ?_
      refine a_ireturn q22_29 (nr_int rfl _) ?_
      exact lfi hq (by clear hq; have zl := lits; have zm : (12 : Int32).toInt = 12 := rfl; have zn : (Int32.ofNat (roT (X.1, h.length) 2).2.1).toInt = 12 := rfl; have zo : (roT (X.1, h.length) 2).2.2 = ro_c := rfl; simp only [zo] at *; unfold f_cc; split <;> ((try simp only [b2i_z] at *) <;> (simp only [isCol, isChan, f_forb, f_forbs, f_dull, f_wished, kd, dlk, f_hgt, b2i_z, i_lt, i_le, i_eq] at * <;> omega)))

theorem c_X2_bit {X : XS} {h : AH} {Q : AO → AH → Prop} {r b : Int32} (hq : Q (.inl (some (.int (g_bit r b)))) h) : Call X 21 [.int r, .int b] h Q := by
  refine call_of (by decide) rfl rfl ?_
  refine a_iload_n (i := 1) q21_0 rfl rfl ?_
  refine a_if_eq (tgt := 10) q21_1 (by decide) (fun zc1 => ?_) (fun zc1 => ?_)
  · skip
    refine a_iconst (v := 0) q21_10 (by decide) ?_
    refine a_ireturn q21_11 (nr_int rfl _) ?_
    exact lfi hq (by unfold g_bit; simp [zc1])
  · skip
    refine a_iconst (v := 1) q21_4 (by decide) ?_
    refine a_iload_n (i := 0) q21_5 rfl rfl ?_
    refine a_ishl q21_6 ?_
    refine a_goto (tgt := 11) q21_7 (by decide) ?_
    refine a_ireturn q21_11 (nr_int rfl _) ?_
    exact lfi hq (by unfold g_bit; simp [zc1])

theorem AW.cutS {X : XS} {mi pc : Nat} {lv : List (Nat × Value)} {st : List Value} {h : AH} {bc bs : Nat} {Q : AO → AH → Prop} {u : Value} (tgt : Nat) (v : Int32) (b : AW X mi tgt lv (.int v :: st) h bc bs Q → AW X mi pc lv (u :: st) h bc bs Q) (k : AW X mi tgt lv (.int v :: st) h bc bs Q) : AW X mi pc lv (u :: st) h bc bs Q := b k
theorem c_X2_brokenSoftRules {X : XS} {I : Nat → Int32} {A : Nat → Nat → Int32} {L : Nat → Nat → Int64} {O : AH} {Q : AO → AH → Prop} {c : Int32} (hq : Q (.inl (some (.int (f_soft I A c)))) (hp I A L O)) : Call X 20 [.ref 11, .int c] (hp I A L O) Q := by
  refine call_of (by decide) rfl rfl ?_
  refine a_iload_n (i := 1) q20_0 rfl rfl ?_
  refine a_cs1 q20_1 rfl ⟨rfl, rfl⟩ rfl ?_
  refine c_X1_markOf ?_
  refine ck_r ?_
  refine a_istore_n (i := 2) (lv' := [(0, _), (1, _), (2, _)]) q20_4 rfl rfl rfl ?_
  refine a_iload_n (i := 1) q20_5 rfl rfl ?_
  refine a_cs1 q20_6 rfl ⟨rfl, rfl⟩ rfl ?_
  refine c_X1_aggregateOf ?_
  refine ck_r ?_
  refine AW.cutS 17 (b2i (g_agg c = 0)) (fun zk17 => ?_) ?_
  · skip
    refine a_if_ne (tgt := 16) q20_9 (by decide) (fun zc9 => ?_) (fun zc9 => ?_)
    · skip
      refine a_iconst (v := 0) q20_16 (by decide) ?_
      exact cutv zk17 (by clear zk17 hq; have zl := lits; unfold b2i; split <;> ((try simp only [b2i_z] at *) <;> (simp only [isCol, isChan, f_forb, f_forbs, f_dull, f_wished, kd, dlk, f_hgt, b2i_z, i_lt, i_le, i_eq] at * <;> omega)))
    · skip
      refine a_iconst (v := 1) q20_12 (by decide) ?_
      refine a_goto (tgt := 17) q20_13 (by decide) ?_
      exact cutv zk17 (by clear zk17 hq; have zl := lits; unfold b2i; split <;> ((try simp only [b2i_z] at *) <;> (simp only [isCol, isChan, f_forb, f_forbs, f_dull, f_wished, kd, dlk, f_hgt, b2i_z, i_lt, i_le, i_eq] at * <;> omega)))
  refine a_istore_n (i := 3) (lv' := [(0, _), (1, _), (2, _), (3, _)]) q20_17 rfl rfl rfl ?_
  refine a_aload_n (i := 0) q20_18 rfl rfl ?_
  refine a_getfield q20_19 rfl rfl ?_
  refine a_iload_n (i := 1) q20_22 rfl rfl ?_
  refine a_iconst (v := 0) q20_23 (by decide) ?_
  refine a_cs2 q20_24 rfl ⟨rfl, rfl⟩ rfl ?_
  refine c_X1_columnIn ?_
  refine ck_r ?_
  refine a_cv1 q20_27 rfl rfl ⟨rfl, rfl⟩ rfl ?_
  refine c_X7_kindAt ?_
  refine ck_r ?_
  refine a_istore (i := 4) (lv' := [(0, _), (1, _), (2, _), (3, _), (4, _)]) q20_30 rfl rfl ?_
  refine a_aload_n (i := 0) q20_32 rfl rfl ?_
  refine a_getfield q20_33 rfl rfl ?_
  refine a_iload_n (i := 1) q20_36 rfl rfl ?_
  refine a_iconst (v := 1) q20_37 (by decide) ?_
  refine a_cs2 q20_38 rfl ⟨rfl, rfl⟩ rfl ?_
  refine c_X1_columnIn ?_
  refine ck_r ?_
  refine a_cv1 q20_41 rfl rfl ⟨rfl, rfl⟩ rfl ?_
  refine c_X7_kindAt ?_
  refine ck_r ?_
  refine a_istore (i := 5) (lv' := [(0, _), (1, _), (2, _), (3, _), (4, _), (5, _)]) q20_44 rfl rfl ?_
  refine a_iload_n (i := 1) q20_46 rfl rfl ?_
  refine a_iconst (v := 2) q20_47 (by decide) ?_
  refine a_cs2 q20_48 rfl ⟨rfl, rfl⟩ rfl ?_
  refine c_X1_columnIn ?_
  refine ck_r ?_
  refine a_istore (i := 6) (lv' := [(0, _), (1, _), (2, _), (3, _), (4, _), (5, _), (6, _)]) q20_51 rfl rfl ?_
  refine a_aload_n (i := 0) q20_53 rfl rfl ?_
  refine a_getfield q20_54 rfl rfl ?_
  refine a_iload q20_57 rfl ?_
  refine a_cv1 q20_59 rfl rfl ⟨rfl, rfl⟩ rfl ?_
  refine c_X7_kindAt ?_
  refine ck_r ?_
  refine a_istore (i := 7) (lv' := [(0, _), (1, _), (2, _), (3, _), (4, _), (5, _), (6, _), (7, _)]) q20_62 rfl rfl ?_
  refine a_iload_n (i := 1) q20_64 rfl rfl ?_
  refine a_cs1 q20_65 rfl ⟨rfl, rfl⟩ rfl ?_
  refine c_X1_columnSet ?_
  refine ck_r ?_
  refine a_cs1 q20_68 rfl ⟨rfl, rfl⟩ rfl ?_
  refine c_J6_bitCount_0f7a4 ?_
  refine ck_r ?_
  refine a_istore (i := 8) (lv' := [(0, _), (1, _), (2, _), (3, _), (4, _), (5, _), (6, _), (7, _), (8, _)]) q20_71 rfl rfl ?_
  refine a_iconst (v := 0) q20_73 (by decide) ?_
  refine a_istore (i := 9) (lv' := [(0, _), (1, _), (2, _), (3, _), (4, _), (5, _), (6, _), (7, _), (8, _), (9, _)]) q20_74 rfl rfl ?_
  refine a_iload q20_76 rfl ?_
  refine a_iconst (v := 0) q20_78 (by decide) ?_
  refine AW.cut 94 (b2i (g_mark c = 98 ∧ g_agg c = 0)) (fun zk94 => ?_) ?_
  · skip
    refine a_iload_n (i := 2) q20_79 rfl rfl ?_
    refine a_bipush (v := 98) q20_80 (by decide) ?_
    refine a_icmp_ne (tgt := 93) q20_82 (by decide) (fun zc82 => ?_) (fun zc82 => ?_)
    · skip
      refine a_iconst (v := 0) q20_93 (by decide) ?_
      exact cutv zk94 (by clear zk94 hq; have zl := lits; unfold b2i; split <;> ((try simp only [b2i_z] at *) <;> (simp only [isCol, isChan, f_forb, f_forbs, f_dull, f_wished, kd, dlk, f_hgt, b2i_z, i_lt, i_le, i_eq] at * <;> omega)))
    · skip
      refine a_iload_n (i := 3) q20_85 rfl rfl ?_
      refine a_if_eq (tgt := 93) q20_86 (by decide) (fun zc86 => ?_) (fun zc86 => ?_)
      · skip
        refine a_iconst (v := 0) q20_93 (by decide) ?_
        exact cutv zk94 (by clear zk94 hq; have zl := lits; unfold b2i; split <;> ((try simp only [b2i_z] at *) <;> (simp only [isCol, isChan, f_forb, f_forbs, f_dull, f_wished, kd, dlk, f_hgt, b2i_z, i_lt, i_le, i_eq] at * <;> omega)))
      · skip
        refine a_iconst (v := 1) q20_89 (by decide) ?_
        refine a_goto (tgt := 94) q20_90 (by decide) ?_
        exact cutv zk94 (by clear zk94 hq; have zl := lits; unfold b2i; split <;> ((try simp only [b2i_z] at *) <;> (simp only [isCol, isChan, f_forb, f_forbs, f_dull, f_wished, kd, dlk, f_hgt, b2i_z, i_lt, i_le, i_eq] at * <;> omega)))
  refine a_cs2 q20_94 rfl ⟨rfl, rfl⟩ rfl ?_
  refine c_X2_bit ?_
  refine ck_r ?_
  refine a_ior q20_97 ?_
  refine a_istore (i := 9) (lv' := [(0, _), (1, _), (2, _), (3, _), (4, _), (5, _), (6, _), (7, _), (8, _), (9, _)]) q20_98 rfl rfl ?_
  refine a_iload q20_100 rfl ?_
  refine a_iconst (v := 1) q20_102 (by decide) ?_
  refine AW.cut 120 (b2i (kd A c 0 = 3 ∧ kd A c 1 = 3)) (fun zk120 => ?_) ?_
  · skip
    refine a_iload q20_103 rfl ?_
    refine a_iconst (v := 3) q20_105 (by decide) ?_
    refine a_icmp_ne (tgt := 119) q20_106 (by decide) (fun zc106 => ?_) (fun zc106 => ?_)
    · skip
      refine a_iconst (v := 0) q20_119 (by decide) ?_
      exact cutv zk120 (by clear zk120 hq; have zl := lits; unfold b2i; split <;> ((try simp only [b2i_z] at *) <;> (simp only [isCol, isChan, f_forb, f_forbs, f_dull, f_wished, kd, dlk, f_hgt, b2i_z, i_lt, i_le, i_eq] at * <;> omega)))
    · skip
      refine a_iload q20_109 rfl ?_
      refine a_iconst (v := 3) q20_111 (by decide) ?_
      refine a_icmp_ne (tgt := 119) q20_112 (by decide) (fun zc112 => ?_) (fun zc112 => ?_)
      · skip
        refine a_iconst (v := 0) q20_119 (by decide) ?_
        exact cutv zk120 (by clear zk120 hq; have zl := lits; unfold b2i; split <;> ((try simp only [b2i_z] at *) <;> (simp only [isCol, isChan, f_forb, f_forbs, f_dull, f_wished, kd, dlk, f_hgt, b2i_z, i_lt, i_le, i_eq] at * <;> omega)))
      · skip
        refine a_iconst (v := 1) q20_115 (by decide) ?_
        refine a_goto (tgt := 120) q20_116 (by decide) ?_
        exact cutv zk120 (by clear zk120 hq; have zl := lits; unfold b2i; split <;> ((try simp only [b2i_z] at *) <;> (simp only [isCol, isChan, f_forb, f_forbs, f_dull, f_wished, kd, dlk, f_hgt, b2i_z, i_lt, i_le, i_eq] at * <;> omega)))
  refine a_cs2 q20_120 rfl ⟨rfl, rfl⟩ rfl ?_
  refine c_X2_bit ?_
  refine ck_r ?_
  refine a_ior q20_123 ?_
  refine a_istore (i := 9) (lv' := [(0, _), (1, _), (2, _), (3, _), (4, _), (5, _), (6, _), (7, _), (8, _), (9, _)]) q20_124 rfl rfl ?_
  refine a_iload q20_126 rfl ?_
  refine a_iconst (v := 2) q20_128 (by decide) ?_
  refine AW.cut 140 (b2i (kd A c 2 = 4)) (fun zk140 => ?_) ?_
  · skip
    refine a_iload q20_129 rfl ?_
    refine a_iconst (v := 4) q20_131 (by decide) ?_
    refine a_icmp_ne (tgt := 139) q20_132 (by decide) (fun zc132 => ?_) (fun zc132 => ?_)
    · skip
      refine a_iconst (v := 0) q20_139 (by decide) ?_
      exact cutv zk140 (by clear zk140 hq; have zl := lits; unfold b2i; split <;> ((try simp only [b2i_z] at *) <;> (simp only [isCol, isChan, f_forb, f_forbs, f_dull, f_wished, kd, dlk, f_hgt, b2i_z, i_lt, i_le, i_eq] at * <;> omega)))
    · skip
      refine a_iconst (v := 1) q20_135 (by decide) ?_
      refine a_goto (tgt := 140) q20_136 (by decide) ?_
      exact cutv zk140 (by clear zk140 hq; have zl := lits; unfold b2i; split <;> ((try simp only [b2i_z] at *) <;> (simp only [isCol, isChan, f_forb, f_forbs, f_dull, f_wished, kd, dlk, f_hgt, b2i_z, i_lt, i_le, i_eq] at * <;> omega)))
  refine a_cs2 q20_140 rfl ⟨rfl, rfl⟩ rfl ?_
  refine c_X2_bit ?_
  refine ck_r ?_
  refine a_ior q20_143 ?_
  refine a_istore (i := 9) (lv' := [(0, _), (1, _), (2, _), (3, _), (4, _), (5, _), (6, _), (7, _), (8, _), (9, _)]) q20_144 rfl rfl ?_
  refine a_iload q20_146 rfl ?_
  refine a_iconst (v := 3) q20_148 (by decide) ?_
  refine AW.cut 176 (b2i (g_mark c = 112 ∧ g_agg c = 0 ∧ 20 < I 2)) (fun zk176 => ?_) ?_
  · skip
    refine a_iload_n (i := 2) q20_149 rfl rfl ?_
    refine a_bipush (v := 112) q20_150 (by decide) ?_
    refine a_icmp_ne (tgt := 175) q20_152 (by decide) (fun zc152 => ?_) (fun zc152 => ?_)
    · skip
      refine a_iconst (v := 0) q20_175 (by decide) ?_
      exact cutv zk176 (by clear zk176 hq; have zl := lits; unfold b2i; split <;> ((try simp only [b2i_z] at *) <;> (simp only [isCol, isChan, f_forb, f_forbs, f_dull, f_wished, kd, dlk, f_hgt, b2i_z, i_lt, i_le, i_eq] at * <;> omega)))
    · skip
      refine a_iload_n (i := 3) q20_155 rfl rfl ?_
      refine a_if_eq (tgt := 175) q20_156 (by decide) (fun zc156 => ?_) (fun zc156 => ?_)
      · skip
        refine a_iconst (v := 0) q20_175 (by decide) ?_
        exact cutv zk176 (by clear zk176 hq; have zl := lits; unfold b2i; split <;> ((try simp only [b2i_z] at *) <;> (simp only [isCol, isChan, f_forb, f_forbs, f_dull, f_wished, kd, dlk, f_hgt, b2i_z, i_lt, i_le, i_eq] at * <;> omega)))
      · skip
        refine a_aload_n (i := 0) q20_159 rfl rfl ?_
        refine a_getfield q20_160 rfl rfl ?_
        refine a_cv0 q20_163 rfl rfl ⟨rfl, rfl⟩ rfl ?_
        refine c_X7_rowCount ?_
        refine ck_r ?_
        refine a_bipush (v := 20) q20_166 (by decide) ?_
        refine a_icmp_le (tgt := 175) q20_168 (by decide) (fun zc168 => ?_) (fun zc168 => ?_)
        · skip
          refine a_iconst (v := 0) q20_175 (by decide) ?_
          exact cutv zk176 (by clear zk176 hq; have zl := lits; unfold b2i; split <;> ((try simp only [b2i_z] at *) <;> (simp only [isCol, isChan, f_forb, f_forbs, f_dull, f_wished, kd, dlk, f_hgt, b2i_z, i_lt, i_le, i_eq] at * <;> omega)))
        · skip
          refine a_iconst (v := 1) q20_171 (by decide) ?_
          refine a_goto (tgt := 176) q20_172 (by decide) ?_
          exact cutv zk176 (by clear zk176 hq; have zl := lits; unfold b2i; split <;> ((try simp only [b2i_z] at *) <;> (simp only [isCol, isChan, f_forb, f_forbs, f_dull, f_wished, kd, dlk, f_hgt, b2i_z, i_lt, i_le, i_eq] at * <;> omega)))
  refine a_cs2 q20_176 rfl ⟨rfl, rfl⟩ rfl ?_
  refine c_X2_bit ?_
  refine ck_r ?_
  refine a_ior q20_179 ?_
  refine a_istore (i := 9) (lv' := [(0, _), (1, _), (2, _), (3, _), (4, _), (5, _), (6, _), (7, _), (8, _), (9, _)]) q20_180 rfl rfl ?_
  refine a_iload q20_182 rfl ?_
  refine a_iconst (v := 4) q20_184 (by decide) ?_
  refine AW.cut 200 (b2i (g_mark c = 112 ∧ ¬ g_agg c = 0)) (fun zk200 => ?_) ?_
  · skip
    refine a_iload_n (i := 2) q20_185 rfl rfl ?_
    refine a_bipush (v := 112) q20_186 (by decide) ?_
    refine a_icmp_ne (tgt := 199) q20_188 (by decide) (fun zc188 => ?_) (fun zc188 => ?_)
    · skip
      refine a_iconst (v := 0) q20_199 (by decide) ?_
      exact cutv zk200 (by clear zk200 hq; have zl := lits; unfold b2i; split <;> ((try simp only [b2i_z] at *) <;> (simp only [isCol, isChan, f_forb, f_forbs, f_dull, f_wished, kd, dlk, f_hgt, b2i_z, i_lt, i_le, i_eq] at * <;> omega)))
    · skip
      refine a_iload_n (i := 3) q20_191 rfl rfl ?_
      refine a_if_ne (tgt := 199) q20_192 (by decide) (fun zc192 => ?_) (fun zc192 => ?_)
      · skip
        refine a_iconst (v := 0) q20_199 (by decide) ?_
        exact cutv zk200 (by clear zk200 hq; have zl := lits; unfold b2i; split <;> ((try simp only [b2i_z] at *) <;> (simp only [isCol, isChan, f_forb, f_forbs, f_dull, f_wished, kd, dlk, f_hgt, b2i_z, i_lt, i_le, i_eq] at * <;> omega)))
      · skip
        refine a_iconst (v := 1) q20_195 (by decide) ?_
        refine a_goto (tgt := 200) q20_196 (by decide) ?_
        exact cutv zk200 (by clear zk200 hq; have zl := lits; unfold b2i; split <;> ((try simp only [b2i_z] at *) <;> (simp only [isCol, isChan, f_forb, f_forbs, f_dull, f_wished, kd, dlk, f_hgt, b2i_z, i_lt, i_le, i_eq] at * <;> omega)))
  refine a_cs2 q20_200 rfl ⟨rfl, rfl⟩ rfl ?_
  refine c_X2_bit ?_
  refine ck_r ?_
  refine a_ior q20_203 ?_
  refine a_istore (i := 9) (lv' := [(0, _), (1, _), (2, _), (3, _), (4, _), (5, _), (6, _), (7, _), (8, _), (9, _)]) q20_204 rfl rfl ?_
  refine a_iload q20_206 rfl ?_
  refine a_iconst (v := 5) q20_208 (by decide) ?_
  refine AW.cut 220 (b2i (3 ≤ g_bc (g_set c))) (fun zk220 => ?_) ?_
  · skip
    refine a_iload q20_209 rfl ?_
    refine a_iconst (v := 3) q20_211 (by decide) ?_
    refine a_icmp_lt (tgt := 219) q20_212 (by decide) (fun zc212 => ?_) (fun zc212 => ?_)
    · skip
      refine a_iconst (v := 0) q20_219 (by decide) ?_
      exact cutv zk220 (by clear zk220 hq; have zl := lits; unfold b2i; split <;> ((try simp only [b2i_z] at *) <;> (simp only [isCol, isChan, f_forb, f_forbs, f_dull, f_wished, kd, dlk, f_hgt, b2i_z, i_lt, i_le, i_eq] at * <;> omega)))
    · skip
      refine a_iconst (v := 1) q20_215 (by decide) ?_
      refine a_goto (tgt := 220) q20_216 (by decide) ?_
      exact cutv zk220 (by clear zk220 hq; have zl := lits; unfold b2i; split <;> ((try simp only [b2i_z] at *) <;> (simp only [isCol, isChan, f_forb, f_forbs, f_dull, f_wished, kd, dlk, f_hgt, b2i_z, i_lt, i_le, i_eq] at * <;> omega)))
  refine a_cs2 q20_220 rfl ⟨rfl, rfl⟩ rfl ?_
  refine c_X2_bit ?_
  refine ck_r ?_
  refine a_ior q20_223 ?_
  refine a_istore (i := 9) (lv' := [(0, _), (1, _), (2, _), (3, _), (4, _), (5, _), (6, _), (7, _), (8, _), (9, _)]) q20_224 rfl rfl ?_
  refine a_iload q20_226 rfl ?_
  refine a_bipush (v := 6) q20_228 (by decide) ?_
  refine AW.cut 254 (b2i (kd A c 2 = 3 ∧ 4 < f_differentIn A (g_col c 2))) (fun zk254 => ?_) ?_
  · skip
    refine a_iload q20_230 rfl ?_
    refine a_iconst (v := 3) q20_232 (by decide) ?_
    refine a_icmp_ne (tgt := 253) q20_233 (by decide) (fun zc233 => ?_) (fun zc233 => ?_)
    · skip
      refine a_iconst (v := 0) q20_253 (by decide) ?_
      exact cutv zk254 (by clear zk254 hq; have zl := lits; unfold b2i; split <;> ((try simp only [b2i_z] at *) <;> (simp only [isCol, isChan, f_forb, f_forbs, f_dull, f_wished, kd, dlk, f_hgt, b2i_z, i_lt, i_le, i_eq] at * <;> omega)))
    · skip
      refine a_aload_n (i := 0) q20_236 rfl rfl ?_
      refine a_getfield q20_237 rfl rfl ?_
      refine a_iload q20_240 rfl ?_
      refine a_cv1 q20_242 rfl rfl ⟨rfl, rfl⟩ rfl ?_
      refine c_X7_differentIn ?_
      refine ck_r ?_
      refine a_iconst (v := 4) q20_245 (by decide) ?_
      refine a_icmp_le (tgt := 253) q20_246 (by decide) (fun zc246 => ?_) (fun zc246 => ?_)
      · skip
        refine a_iconst (v := 0) q20_253 (by decide) ?_
        exact cutv zk254 (by clear zk254 hq; have zl := lits; unfold b2i; split <;> ((try simp only [b2i_z] at *) <;> (simp only [isCol, isChan, f_forb, f_forbs, f_dull, f_wished, kd, dlk, f_hgt, b2i_z, i_lt, i_le, i_eq] at * <;> omega)))
      · skip
        refine a_iconst (v := 1) q20_249 (by decide) ?_
        refine a_goto (tgt := 254) q20_250 (by decide) ?_
        exact cutv zk254 (by clear zk254 hq; have zl := lits; unfold b2i; split <;> ((try simp only [b2i_z] at *) <;> (simp only [isCol, isChan, f_forb, f_forbs, f_dull, f_wished, kd, dlk, f_hgt, b2i_z, i_lt, i_le, i_eq] at * <;> omega)))
  refine a_cs2 q20_254 rfl ⟨rfl, rfl⟩ rfl ?_
  refine c_X2_bit ?_
  refine ck_r ?_
  refine a_ior q20_257 ?_
  refine a_istore (i := 9) (lv' := [(0, _), (1, _), (2, _), (3, _), (4, _), (5, _), (6, _), (7, _), (8, _), (9, _)]) q20_258 rfl rfl ?_
  refine a_iload q20_260 rfl ?_
  refine a_bipush (v := 7) q20_262 (by decide) ?_
  refine AW.cut 281 (b2i (kd A c 0 = -1 ∨ kd A c 1 = -1)) (fun zk281 => ?_) ?_
  · skip
    refine a_iload q20_264 rfl ?_
    refine a_iconst (v := (-1)) q20_266 (by decide) ?_
    refine a_icmp_eq (tgt := 276) q20_267 (by decide) (fun zc267 => ?_) (fun zc267 => ?_)
    · skip
      refine a_iconst (v := 1) q20_276 (by decide) ?_
      refine a_goto (tgt := 281) q20_277 (by decide) ?_
      exact cutv zk281 (by clear zk281 hq; have zl := lits; unfold b2i; split <;> ((try simp only [b2i_z] at *) <;> (simp only [isCol, isChan, f_forb, f_forbs, f_dull, f_wished, kd, dlk, f_hgt, b2i_z, i_lt, i_le, i_eq] at * <;> omega)))
    · skip
      refine a_iload q20_270 rfl ?_
      refine a_iconst (v := (-1)) q20_272 (by decide) ?_
      refine a_icmp_ne (tgt := 280) q20_273 (by decide) (fun zc273 => ?_) (fun zc273 => ?_)
      · skip
        refine a_iconst (v := 0) q20_280 (by decide) ?_
        exact cutv zk281 (by clear zk281 hq; have zl := lits; unfold b2i; split <;> ((try simp only [b2i_z] at *) <;> (simp only [isCol, isChan, f_forb, f_forbs, f_dull, f_wished, kd, dlk, f_hgt, b2i_z, i_lt, i_le, i_eq] at * <;> omega)))
      · skip
        refine a_iconst (v := 1) q20_276 (by decide) ?_
        refine a_goto (tgt := 281) q20_277 (by decide) ?_
        exact cutv zk281 (by clear zk281 hq; have zl := lits; unfold b2i; split <;> ((try simp only [b2i_z] at *) <;> (simp only [isCol, isChan, f_forb, f_forbs, f_dull, f_wished, kd, dlk, f_hgt, b2i_z, i_lt, i_le, i_eq] at * <;> omega)))
  refine a_cs2 q20_281 rfl ⟨rfl, rfl⟩ rfl ?_
  refine c_X2_bit ?_
  refine ck_r ?_
  refine a_ior q20_284 ?_
  refine a_istore (i := 9) (lv' := [(0, _), (1, _), (2, _), (3, _), (4, _), (5, _), (6, _), (7, _), (8, _), (9, _)]) q20_285 rfl rfl ?_
  refine a_iload q20_287 rfl ?_
  refine a_ireturn q20_289 (nr_int rfl _) ?_
  exact hq

theorem AW.lv {X : XS} {mi pc : Nat} {lv lv' : List (Nat × Value)} {st : List Value} {h : AH} {bc bs : Nat} {Q : AO → AH → Prop} (e : lv = lv') (k : AW X mi pc lv' st h bc bs Q) : AW X mi pc lv st h bc bs Q := e ▸ k
theorem l_costOf (n : Nat) : ∀ {X : XS} {I : Nat → Int32} {A : Nat → Nat → Int32} {L : Nat → Nat → Int64} {O : AH} {Q : AO → AH → Prop} {c cost b : Int32} {g : Int64} (hn : n ≤ 8) (hq : Q (.inl (some (.int (addW (A 11) b n cost)))) (hp I A L O)), AW X 19 75 [(0, .ref 11), (1, .int c), (2, .int cost), (3, .long g), (5, .int b), (6, .int (nI (8 - n)))] [] (hp I A L O) 0 0 Q := by
  induction n with
  | zero =>
    intro X I A L O Q c cost b g hn hq
    refine a_iload q19_75 rfl ?_
    refine a_aload_n (i := 0) q19_77 rfl rfl ?_
    refine a_getfield q19_78 rfl rfl ?_
    refine a_alen (v := 8) q19_81 rfl (by decide) rfl ?_
    refine a_icmp_ge (tgt := 111) q19_82 (by decide) (fun zc82 => ?_) (fun zc82 => absurd (by decide) zc82)
    refine a_iload_n (i := 2) q19_111 rfl rfl ?_
    refine a_ireturn q19_112 (nr_int rfl _) ?_
    exact hq
  | succ n ih =>
    intro X I A L O Q c cost b g hn hq
    refine AW.lv (lv' := [(0, _), (1, _), (2, _), (3, _), (5, _), (6, .int (nI (7 - n)))]) (by rw [show 8 - (n + 1) = 7 - n by omega]) ?_
    refine a_iload q19_75 rfl ?_
    refine a_aload_n (i := 0) q19_77 rfl rfl ?_
    refine a_getfield q19_78 rfl rfl ?_
    refine a_alen (v := 8) q19_81 rfl (by decide) rfl ?_
    refine a_icmp_ge (tgt := 111) q19_82 (by decide) (fun zc82 => absurd zc82 (nI_ge (b := 8) (show 7 - n < 8 by omega) (by decide))) (fun zc82 => ?_)
    refine a_iload q19_85 rfl ?_
    refine a_iload q19_87 rfl ?_
    refine a_ishr q19_89 ?_
    refine a_iconst (v := 1) q19_90 (by decide) ?_
    refine a_iand q19_91 ?_
    refine a_if_eq (tgt := 105) q19_92 (by decide) (fun zc92 => ?_) (fun zc92 => ?_)
    · skip
      refine a_iinc (v := nI (8 - n)) (lv' := [(0, _), (1, _), (2, _), (3, _), (5, _), (6, _)]) q19_105 rfl rfl (by rw [show 8 - n = 7 - n + 1 by omega]; exact nI_1 (7 - n)) rfl ?_
      refine a_goto (tgt := 75) q19_108 (by decide) ?_
      exact ih (by omega) (by rw [addW, if_pos zc92] at hq; exact hq)
    · skip
      refine a_iload_n (i := 2) q19_95 rfl rfl ?_
      refine a_aload_n (i := 0) q19_96 rfl rfl ?_
      refine a_getfield q19_97 rfl rfl ?_
      refine a_iload q19_100 rfl ?_
      refine a_iald' (j := 7 - n) q19_102 rfl rfl (by omega) (by decide) ?_
      refine a_iadd q19_103 ?_
      refine a_istore_n (i := 2) (lv' := [(0, _), (1, _), (2, _), (3, _), (5, _), (6, _)]) q19_104 rfl rfl rfl ?_
      refine a_iinc (v := nI (8 - n)) (lv' := [(0, _), (1, _), (2, _), (3, _), (5, _), (6, _)]) q19_105 rfl rfl (by rw [show 8 - n = 7 - n + 1 by omega]; exact nI_1 (7 - n)) rfl ?_
      refine a_goto (tgt := 75) q19_108 (by decide) ?_
      exact ih (by omega) (by rw [addW, if_neg zc92] at hq; exact hq)

theorem c_X2_costOf {X : XS} {I : Nat → Int32} {A : Nat → Nat → Int32} {L : Nat → Nat → Int64} {O : AH} {Q : AO → AH → Prop} {c : Int32} (hq : Q (.inl (some (.int (f_cost I A L c)))) (hp I A L O)) : Call X 19 [.ref 11, .int c] (hp I A L O) Q := by
  refine call_of (by decide) rfl rfl ?_
  refine a_iconst (v := 0) q19_0 (by decide) ?_
  refine a_istore_n (i := 2) (lv' := [(0, _), (1, _), (2, _)]) q19_1 rfl rfl rfl ?_
  refine a_lconst (v := 0) q19_2 (by decide) ?_
  refine a_lstore_n (i := 3) (lv' := [(0, _), (1, _), (2, _), (3, _)]) q19_3 rfl rfl rfl ?_
  refine a_iconst (v := 0) q19_4 (by decide) ?_
  refine a_istore (i := 5) (lv' := [(0, _), (1, _), (2, _), (3, _), (5, _)]) q19_5 rfl rfl ?_
  refine a_iload q19_7 rfl ?_
  refine a_iconst (v := 4) q19_9 (by decide) ?_
  refine a_icmp_ge (tgt := 56) q19_10 (by decide) (fun zc10 => absurd zc10 (by decide)) (fun zc10 => ?_)
  refine a_iload_n (i := 1) q19_13 rfl rfl ?_
  refine a_iload q19_14 rfl ?_
  refine a_cs2 q19_16 rfl ⟨rfl, rfl⟩ rfl ?_
  refine c_X1_columnIn ?_
  refine ck_r ?_
  refine a_istore (i := 6) (lv' := [(0, _), (1, _), (2, _), (3, _), (5, _), (6, _)]) q19_19 rfl rfl ?_
  refine a_iload_n (i := 2) q19_21 rfl rfl ?_
  refine a_aload_n (i := 0) q19_22 rfl rfl ?_
  refine a_getfield q19_23 rfl rfl ?_
  refine a_iload q19_26 rfl ?_
  refine a_cv1 q19_28 rfl rfl ⟨rfl, rfl⟩ rfl ?_
  refine c_X7_kindAt ?_
  refine ck_r ?_
  refine a_iload q19_31 rfl ?_
  refine a_cs2 q19_33 rfl ⟨rfl, rfl⟩ rfl ?_
  refine c_X2_channelCost ?_
  refine ck_r ?_
  refine a_iadd q19_36 ?_
  refine a_istore_n (i := 2) (lv' := [(0, _), (1, _), (2, _), (3, _), (5, _), (6, _)]) q19_37 rfl rfl rfl ?_
  refine a_lload_n (i := 3) q19_38 rfl rfl ?_
  refine a_aload_n (i := 0) q19_39 rfl rfl ?_
  refine a_getfield q19_40 rfl rfl ?_
  refine a_iload q19_43 rfl ?_
  refine a_cv1 q19_45 rfl rfl ⟨rfl, rfl⟩ rfl ?_
  refine c_X7_gapsIn ?_
  refine ck_r ?_
  refine a_lor q19_48 ?_
  refine a_lstore_n (i := 3) (lv' := [(0, _), (1, _), (2, _), (3, _), (5, _), (6, _)]) q19_49 rfl rfl rfl ?_
  refine a_iinc (lv' := [(0, _), (1, _), (2, _), (3, _), (5, _), (6, _)]) q19_50 rfl rfl rfl rfl ?_
  refine a_goto (tgt := 7) q19_53 (by decide) ?_
  refine a_iload q19_7 rfl ?_
  refine a_iconst (v := 4) q19_9 (by decide) ?_
  refine a_icmp_ge (tgt := 56) q19_10 (by decide) (fun zc10_1 => absurd zc10_1 (by decide)) (fun zc10_1 => ?_)
  refine a_iload_n (i := 1) q19_13 rfl rfl ?_
  refine a_iload q19_14 rfl ?_
  refine a_cs2 q19_16 rfl ⟨rfl, rfl⟩ rfl ?_
  refine c_X1_columnIn ?_
  refine ck_r ?_
  refine a_istore (i := 6) (lv' := [(0, _), (1, _), (2, _), (3, _), (5, _), (6, _)]) q19_19 rfl rfl ?_
  refine a_iload_n (i := 2) q19_21 rfl rfl ?_
  refine a_aload_n (i := 0) q19_22 rfl rfl ?_
  refine a_getfield q19_23 rfl rfl ?_
  refine a_iload q19_26 rfl ?_
  refine a_cv1 q19_28 rfl rfl ⟨rfl, rfl⟩ rfl ?_
  refine c_X7_kindAt ?_
  refine ck_r ?_
  refine a_iload q19_31 rfl ?_
  refine a_cs2 q19_33 rfl ⟨rfl, rfl⟩ rfl ?_
  refine c_X2_channelCost ?_
  refine ck_r ?_
  refine a_iadd q19_36 ?_
  refine a_istore_n (i := 2) (lv' := [(0, _), (1, _), (2, _), (3, _), (5, _), (6, _)]) q19_37 rfl rfl rfl ?_
  refine a_lload_n (i := 3) q19_38 rfl rfl ?_
  refine a_aload_n (i := 0) q19_39 rfl rfl ?_
  refine a_getfield q19_40 rfl rfl ?_
  refine a_iload q19_43 rfl ?_
  refine a_cv1 q19_45 rfl rfl ⟨rfl, rfl⟩ rfl ?_
  refine c_X7_gapsIn ?_
  refine ck_r ?_
  refine a_lor q19_48 ?_
  refine a_lstore_n (i := 3) (lv' := [(0, _), (1, _), (2, _), (3, _), (5, _), (6, _)]) q19_49 rfl rfl rfl ?_
  refine a_iinc (lv' := [(0, _), (1, _), (2, _), (3, _), (5, _), (6, _)]) q19_50 rfl rfl rfl rfl ?_
  refine a_goto (tgt := 7) q19_53 (by decide) ?_
  refine a_iload q19_7 rfl ?_
  refine a_iconst (v := 4) q19_9 (by decide) ?_
  refine a_icmp_ge (tgt := 56) q19_10 (by decide) (fun zc10_2 => absurd zc10_2 (by decide)) (fun zc10_2 => ?_)
  refine a_iload_n (i := 1) q19_13 rfl rfl ?_
  refine a_iload q19_14 rfl ?_
  refine a_cs2 q19_16 rfl ⟨rfl, rfl⟩ rfl ?_
  refine c_X1_columnIn ?_
  refine ck_r ?_
  refine a_istore (i := 6) (lv' := [(0, _), (1, _), (2, _), (3, _), (5, _), (6, _)]) q19_19 rfl rfl ?_
  refine a_iload_n (i := 2) q19_21 rfl rfl ?_
  refine a_aload_n (i := 0) q19_22 rfl rfl ?_
  refine a_getfield q19_23 rfl rfl ?_
  refine a_iload q19_26 rfl ?_
  refine a_cv1 q19_28 rfl rfl ⟨rfl, rfl⟩ rfl ?_
  refine c_X7_kindAt ?_
  refine ck_r ?_
  refine a_iload q19_31 rfl ?_
  refine a_cs2 q19_33 rfl ⟨rfl, rfl⟩ rfl ?_
  refine c_X2_channelCost ?_
  refine ck_r ?_
  refine a_iadd q19_36 ?_
  refine a_istore_n (i := 2) (lv' := [(0, _), (1, _), (2, _), (3, _), (5, _), (6, _)]) q19_37 rfl rfl rfl ?_
  refine a_lload_n (i := 3) q19_38 rfl rfl ?_
  refine a_aload_n (i := 0) q19_39 rfl rfl ?_
  refine a_getfield q19_40 rfl rfl ?_
  refine a_iload q19_43 rfl ?_
  refine a_cv1 q19_45 rfl rfl ⟨rfl, rfl⟩ rfl ?_
  refine c_X7_gapsIn ?_
  refine ck_r ?_
  refine a_lor q19_48 ?_
  refine a_lstore_n (i := 3) (lv' := [(0, _), (1, _), (2, _), (3, _), (5, _), (6, _)]) q19_49 rfl rfl rfl ?_
  refine a_iinc (lv' := [(0, _), (1, _), (2, _), (3, _), (5, _), (6, _)]) q19_50 rfl rfl rfl rfl ?_
  refine a_goto (tgt := 7) q19_53 (by decide) ?_
  refine a_iload q19_7 rfl ?_
  refine a_iconst (v := 4) q19_9 (by decide) ?_
  refine a_icmp_ge (tgt := 56) q19_10 (by decide) (fun zc10_3 => absurd zc10_3 (by decide)) (fun zc10_3 => ?_)
  refine a_iload_n (i := 1) q19_13 rfl rfl ?_
  refine a_iload q19_14 rfl ?_
  refine a_cs2 q19_16 rfl ⟨rfl, rfl⟩ rfl ?_
  refine c_X1_columnIn ?_
  refine ck_r ?_
  refine a_istore (i := 6) (lv' := [(0, _), (1, _), (2, _), (3, _), (5, _), (6, _)]) q19_19 rfl rfl ?_
  refine a_iload_n (i := 2) q19_21 rfl rfl ?_
  refine a_aload_n (i := 0) q19_22 rfl rfl ?_
  refine a_getfield q19_23 rfl rfl ?_
  refine a_iload q19_26 rfl ?_
  refine a_cv1 q19_28 rfl rfl ⟨rfl, rfl⟩ rfl ?_
  refine c_X7_kindAt ?_
  refine ck_r ?_
  refine a_iload q19_31 rfl ?_
  refine a_cs2 q19_33 rfl ⟨rfl, rfl⟩ rfl ?_
  refine c_X2_channelCost ?_
  refine ck_r ?_
  refine a_iadd q19_36 ?_
  refine a_istore_n (i := 2) (lv' := [(0, _), (1, _), (2, _), (3, _), (5, _), (6, _)]) q19_37 rfl rfl rfl ?_
  refine a_lload_n (i := 3) q19_38 rfl rfl ?_
  refine a_aload_n (i := 0) q19_39 rfl rfl ?_
  refine a_getfield q19_40 rfl rfl ?_
  refine a_iload q19_43 rfl ?_
  refine a_cv1 q19_45 rfl rfl ⟨rfl, rfl⟩ rfl ?_
  refine c_X7_gapsIn ?_
  refine ck_r ?_
  refine a_lor q19_48 ?_
  refine a_lstore_n (i := 3) (lv' := [(0, _), (1, _), (2, _), (3, _), (5, _), (6, _)]) q19_49 rfl rfl rfl ?_
  refine a_iinc (lv' := [(0, _), (1, _), (2, _), (3, _), (5, _), (6, _)]) q19_50 rfl rfl rfl rfl ?_
  refine a_goto (tgt := 7) q19_53 (by decide) ?_
  refine a_iload q19_7 rfl ?_
  refine a_iconst (v := 4) q19_9 (by decide) ?_
  refine a_icmp_ge (tgt := 56) q19_10 (by decide) (fun zc10_4 => ?_) (fun zc10_4 => absurd (by decide) zc10_4)
  refine a_iload_n (i := 2) q19_56 rfl rfl ?_
  refine a_lload_n (i := 3) q19_57 rfl rfl ?_
  refine a_cs1 q19_58 rfl ⟨rfl, rfl⟩ rfl ?_
  refine c_J13_bitCount_95d88 ?_
  refine ck_r ?_
  refine a_iconst (v := 5) q19_61 (by decide) ?_
  refine a_idiv q19_62 (by decide) ?_
  refine a_iadd q19_63 ?_
  refine a_istore_n (i := 2) (lv' := [(0, _), (1, _), (2, _), (3, _), (5, _), (6, _)]) q19_64 rfl rfl rfl ?_
  refine a_aload_n (i := 0) q19_65 rfl rfl ?_
  refine a_iload_n (i := 1) q19_66 rfl rfl ?_
  refine a_cv1 q19_67 rfl rfl ⟨rfl, rfl⟩ rfl ?_
  refine c_X2_brokenSoftRules ?_
  refine ck_r ?_
  refine a_istore (i := 5) (lv' := [(0, _), (1, _), (2, _), (3, _), (5, _), (6, _)]) q19_70 rfl rfl ?_
  refine a_iconst (v := 0) q19_72 (by decide) ?_
  refine a_istore (i := 6) (lv' := [(0, _), (1, _), (2, _), (3, _), (5, _), (6, _)]) q19_73 rfl rfl ?_
  exact l_costOf 8 (by decide) hq
