/-! the class's leaf methods -/
def b2i (p : Prop) [Decidable p] : Int32 := if p then 1 else 0
theorem b2i_z {p : Prop} [Decidable p] : b2i p = 0 ↔ ¬ p := by unfold b2i; split <;> simp_all
theorem b2i_nz {p : Prop} [Decidable p] : ¬ b2i p = 0 ↔ p := by rw [b2i_z]; exact Classical.not_not
theorem b2i_01 {p : Prop} [Decidable p] : b2i p = 0 ∨ b2i p = 1 := by unfold b2i; split <;> simp
theorem b2i_t {p : Prop} [Decidable p] (h : p) : b2i p = 1 := if_pos h
theorem b2i_f {p : Prop} [Decidable p] (h : ¬ p) : b2i p = 0 := if_neg h
theorem vpi {x N : Int32} {n : Nat} (h0 : ¬ x < 0) (h1 : ¬ N ≤ x) (hN : N.toInt = n) : vp_in x n := by
  refine vp_in_iff.mpr ?_
  rw [Int32.lt_iff_toInt_lt] at h0
  rw [Int32.le_iff_toInt_le] at h1
  have : (0 : Int32).toInt = 0 := rfl
  omega
/-- a column's number -/
abbrev isCol (c : Int32) : Prop := 0 ≤ c ∧ c < 6
abbrev isChan (c : Int32) : Prop := 0 ≤ c ∧ c < 4
abbrev isMk (m : Int32) : Prop := m = 98 ∨ m = 108 ∨ m = 112
abbrev isVal (v : Int32) : Prop := v = -10000 ∨ (-9999 ≤ v ∧ v ≤ 9999)
theorem i_lt {a b : Int32} : a < b ↔ a.toInt < b.toInt := Int32.lt_iff_toInt_lt
theorem i_le {a b : Int32} : a ≤ b ↔ a.toInt ≤ b.toInt := Int32.le_iff_toInt_le
theorem i_eq {a b : Int32} : a = b ↔ a.toInt = b.toInt := Int32.toInt_inj.symm
theorem lits : (0 : Int32).toInt = 0 ∧ (1 : Int32).toInt = 1 ∧ (2 : Int32).toInt = 2 ∧ (3 : Int32).toInt = 3 ∧ (4 : Int32).toInt = 4 ∧ (5 : Int32).toInt = 5 ∧ (6 : Int32).toInt = 6 ∧ (7 : Int32).toInt = 7 ∧ (8 : Int32).toInt = 8 ∧ (20 : Int32).toInt = 20 ∧ (24 : Int32).toInt = 24 ∧ (39 : Int32).toInt = 39 ∧ (40 : Int32).toInt = 40 ∧ (45 : Int32).toInt = 45 ∧ (98 : Int32).toInt = 98 ∧ (99 : Int32).toInt = 99 ∧ (108 : Int32).toInt = 108 ∧ (112 : Int32).toInt = 112 ∧ (9999 : Int32).toInt = 9999 ∧ (-1 : Int32).toInt = -1 ∧ (-9999 : Int32).toInt = -9999 ∧ (-10000 : Int32).toInt = -10000 := by decide
theorem i_nlt {a b : Int32} : ¬ a < b ↔ b ≤ a := Int32.not_lt
theorem i_nle {a b : Int32} : ¬ a ≤ b ↔ b < a := Int32.not_le
theorem isCol_in {c : Int32} (h : isCol c) : vp_in c 6 := vpi (i_nlt.mpr h.1) (i_nle.mpr h.2) rfl
abbrev isRow (I : Nat → Int32) (r : Int32) : Prop := 0 ≤ r ∧ r < I 2 ∧ r < 40
theorem AW.cut {X : XS} {mi pc : Nat} {lv : List (Nat × Value)} {st : List Value} {h : AH} {bc bs : Nat} {Q : AO → AH → Prop} (tgt : Nat) (v : Int32) (b : AW X mi tgt lv (.int v :: st) h bc bs Q → AW X mi pc lv st h bc bs Q) (k : AW X mi tgt lv (.int v :: st) h bc bs Q) : AW X mi pc lv st h bc bs Q := b k
theorem cutv {X : XS} {mi pc : Nat} {lv : List (Nat × Value)} {st : List Value} {h : AH} {bc bs : Nat} {Q : AO → AH → Prop} {v w : Int32} (k : AW X mi pc lv (.int v :: st) h bc bs Q) (e : v = w) : AW X mi pc lv (.int w :: st) h bc bs Q := e ▸ k

theorem c_X9_isColumn {X : XS} {h : AH} {Q : AO → AH → Prop} {c : Int32} (hq : Q (.inl (some (.int (b2i (isCol c))))) h) : Call X 96 [.int c] h Q := by
  refine call_of (by decide) rfl rfl ?_
  refine a_iload_n (i := 0) q96_0 rfl rfl ?_
  refine a_if_lt (tgt := 14) q96_1 (by decide) (fun zc1 => ?_) (fun zc1 => ?_)
  · skip
    refine a_iconst (v := 0) q96_14 (by decide) ?_
    refine a_ireturn q96_15 (nr_bool rfl (by decide)) ?_
    exact lfi hq (by have zl := lits; unfold b2i; split <;> (simp only [isCol, isChan, isMk, isVal, isRow, i_lt, i_le, i_eq] at * <;> omega))
  · skip
    refine a_iload_n (i := 0) q96_4 rfl rfl ?_
    refine a_bipush (v := 6) q96_5 (by decide) ?_
    refine a_icmp_ge (tgt := 14) q96_7 (by decide) (fun zc7 => ?_) (fun zc7 => ?_)
    · skip
      refine a_iconst (v := 0) q96_14 (by decide) ?_
      refine a_ireturn q96_15 (nr_bool rfl (by decide)) ?_
      exact lfi hq (by have zl := lits; unfold b2i; split <;> (simp only [isCol, isChan, isMk, isVal, isRow, i_lt, i_le, i_eq] at * <;> omega))
    · skip
      refine a_iconst (v := 1) q96_10 (by decide) ?_
      refine a_goto (tgt := 15) q96_11 (by decide) ?_
      refine a_ireturn q96_15 (nr_bool rfl (by decide)) ?_
      exact lfi hq (by have zl := lits; unfold b2i; split <;> (simp only [isCol, isChan, isMk, isVal, isRow, i_lt, i_le, i_eq] at * <;> omega))

theorem c_X9_isChannel {X : XS} {h : AH} {Q : AO → AH → Prop} {c : Int32} (hq : Q (.inl (some (.int (b2i (isChan c))))) h) : Call X 97 [.int c] h Q := by
  refine call_of (by decide) rfl rfl ?_
  refine a_iload_n (i := 0) q97_0 rfl rfl ?_
  refine a_if_lt (tgt := 13) q97_1 (by decide) (fun zc1 => ?_) (fun zc1 => ?_)
  · skip
    refine a_iconst (v := 0) q97_13 (by decide) ?_
    refine a_ireturn q97_14 (nr_bool rfl (by decide)) ?_
    exact lfi hq (by have zl := lits; unfold b2i; split <;> (simp only [isCol, isChan, isMk, isVal, isRow, i_lt, i_le, i_eq] at * <;> omega))
  · skip
    refine a_iload_n (i := 0) q97_4 rfl rfl ?_
    refine a_iconst (v := 4) q97_5 (by decide) ?_
    refine a_icmp_ge (tgt := 13) q97_6 (by decide) (fun zc6 => ?_) (fun zc6 => ?_)
    · skip
      refine a_iconst (v := 0) q97_13 (by decide) ?_
      refine a_ireturn q97_14 (nr_bool rfl (by decide)) ?_
      exact lfi hq (by have zl := lits; unfold b2i; split <;> (simp only [isCol, isChan, isMk, isVal, isRow, i_lt, i_le, i_eq] at * <;> omega))
    · skip
      refine a_iconst (v := 1) q97_9 (by decide) ?_
      refine a_goto (tgt := 14) q97_10 (by decide) ?_
      refine a_ireturn q97_14 (nr_bool rfl (by decide)) ?_
      exact lfi hq (by have zl := lits; unfold b2i; split <;> (simp only [isCol, isChan, isMk, isVal, isRow, i_lt, i_le, i_eq] at * <;> omega))

theorem c_X9_isMark {X : XS} {h : AH} {Q : AO → AH → Prop} {m : Int32} (hq : Q (.inl (some (.int (b2i (isMk m))))) h) : Call X 98 [.int m] h Q := by
  refine call_of (by decide) rfl rfl ?_
  refine a_iload_n (i := 0) q98_0 rfl rfl ?_
  refine a_bipush (v := 98) q98_1 (by decide) ?_
  refine a_icmp_eq (tgt := 18) q98_3 (by decide) (fun zc3 => ?_) (fun zc3 => ?_)
  · skip
    refine a_iconst (v := 1) q98_18 (by decide) ?_
    refine a_goto (tgt := 23) q98_19 (by decide) ?_
    refine a_ireturn q98_23 (nr_bool rfl (by decide)) ?_
    exact lfi hq (by have zl := lits; unfold b2i; split <;> (simp only [isCol, isChan, isMk, isVal, isRow, i_lt, i_le, i_eq] at * <;> omega))
  · skip
    refine a_iload_n (i := 0) q98_6 rfl rfl ?_
    refine a_bipush (v := 108) q98_7 (by decide) ?_
    refine a_icmp_eq (tgt := 18) q98_9 (by decide) (fun zc9 => ?_) (fun zc9 => ?_)
    · skip
      refine a_iconst (v := 1) q98_18 (by decide) ?_
      refine a_goto (tgt := 23) q98_19 (by decide) ?_
      refine a_ireturn q98_23 (nr_bool rfl (by decide)) ?_
      exact lfi hq (by have zl := lits; unfold b2i; split <;> (simp only [isCol, isChan, isMk, isVal, isRow, i_lt, i_le, i_eq] at * <;> omega))
    · skip
      refine a_iload_n (i := 0) q98_12 rfl rfl ?_
      refine a_bipush (v := 112) q98_13 (by decide) ?_
      refine a_icmp_ne (tgt := 22) q98_15 (by decide) (fun zc15 => ?_) (fun zc15 => ?_)
      · skip
        refine a_iconst (v := 0) q98_22 (by decide) ?_
        refine a_ireturn q98_23 (nr_bool rfl (by decide)) ?_
        exact lfi hq (by have zl := lits; unfold b2i; split <;> (simp only [isCol, isChan, isMk, isVal, isRow, i_lt, i_le, i_eq] at * <;> omega))
      · skip
        refine a_iconst (v := 1) q98_18 (by decide) ?_
        refine a_goto (tgt := 23) q98_19 (by decide) ?_
        refine a_ireturn q98_23 (nr_bool rfl (by decide)) ?_
        exact lfi hq (by have zl := lits; unfold b2i; split <;> (simp only [isCol, isChan, isMk, isVal, isRow, i_lt, i_le, i_eq] at * <;> omega))

theorem c_X9_isValue {X : XS} {h : AH} {Q : AO → AH → Prop} {v : Int32} (hq : Q (.inl (some (.int (b2i (isVal v))))) h) : Call X 95 [.int v] h Q := by
  refine call_of (by decide) rfl rfl ?_
  refine a_iload_n (i := 0) q95_0 rfl rfl ?_
  refine a_sipush (v := (-10000)) q95_1 (by decide) ?_
  refine a_icmp_eq (tgt := 21) q95_4 (by decide) (fun zc4 => ?_) (fun zc4 => ?_)
  · skip
    refine a_iconst (v := 1) q95_21 (by decide) ?_
    refine a_goto (tgt := 26) q95_22 (by decide) ?_
    refine a_ireturn q95_26 (nr_bool rfl (by decide)) ?_
    exact lfi hq (by have zl := lits; unfold b2i; split <;> (simp only [isCol, isChan, isMk, isVal, isRow, i_lt, i_le, i_eq] at * <;> omega))
  · skip
    refine a_iload_n (i := 0) q95_7 rfl rfl ?_
    refine a_sipush (v := (-9999)) q95_8 (by decide) ?_
    refine a_icmp_lt (tgt := 25) q95_11 (by decide) (fun zc11 => ?_) (fun zc11 => ?_)
    · skip
      refine a_iconst (v := 0) q95_25 (by decide) ?_
      refine a_ireturn q95_26 (nr_bool rfl (by decide)) ?_
      exact lfi hq (by have zl := lits; unfold b2i; split <;> (simp only [isCol, isChan, isMk, isVal, isRow, i_lt, i_le, i_eq] at * <;> omega))
    · skip
      refine a_iload_n (i := 0) q95_14 rfl rfl ?_
      refine a_sipush (v := 9999) q95_15 (by decide) ?_
      refine a_icmp_gt (tgt := 25) q95_18 (by decide) (fun zc18 => ?_) (fun zc18 => ?_)
      · skip
        refine a_iconst (v := 0) q95_25 (by decide) ?_
        refine a_ireturn q95_26 (nr_bool rfl (by decide)) ?_
        exact lfi hq (by have zl := lits; unfold b2i; split <;> (simp only [isCol, isChan, isMk, isVal, isRow, i_lt, i_le, i_eq] at * <;> omega))
      · skip
        refine a_iconst (v := 1) q95_21 (by decide) ?_
        refine a_goto (tgt := 26) q95_22 (by decide) ?_
        refine a_ireturn q95_26 (nr_bool rfl (by decide)) ?_
        exact lfi hq (by have zl := lits; unfold b2i; split <;> (simp only [isCol, isChan, isMk, isVal, isRow, i_lt, i_le, i_eq] at * <;> omega))

def g_bare (m a : Int32) : Int32 := (m <<< ((14 : Int32) &&& 31)) ||| (a <<< ((12 : Int32) &&& 31))
def g_mark (c : Int32) : Int32 := (((c >>> ((14 : Int32) &&& 31)) &&& 127).toUInt32 % 65536).toInt32
def g_agg (c : Int32) : Int32 := (c >>> ((12 : Int32) &&& 31)) &&& 3
def g_col (c k : Int32) : Int32 := ((c >>> (((3 - k) * 3) &&& 31)) &&& 7) - 1
def g_wMark (c m : Int32) : Int32 := (c &&& (-2080769)) ||| (m <<< ((14 : Int32) &&& 31))
def g_wAgg (c a : Int32) : Int32 := (c &&& (-12289)) ||| (a <<< ((12 : Int32) &&& 31))
def g_wCol (c k x : Int32) : Int32 := (c &&& ((((7 : Int32) <<< (((3 - k) * 3) &&& 31))) ^^^ (-1))) ||| ((x + 1) <<< (((3 - k) * 3) &&& 31))
def g_set (c : Int32) : Int32 := (((((0 : Int32) ||| ((1 : Int32) <<< (((c >>> ((0 : Int32) &&& 31)) &&& 7) &&& 31))) ||| ((1 : Int32) <<< (((c >>> ((3 : Int32) &&& 31)) &&& 7) &&& 31))) ||| ((1 : Int32) <<< (((c >>> ((6 : Int32) &&& 31)) &&& 7) &&& 31))) ||| ((1 : Int32) <<< (((c >>> ((9 : Int32) &&& 31)) &&& 7) &&& 31))) >>> ((1 : Int32) &&& 31)
abbrev g_holds (c x : Int32) : Prop := ¬ x = -1 ∧ ¬ ((g_set c >>> (x &&& 31)) &&& 1) = 0
theorem nr_char {mi : Nat} {x : Int32} (h : mR mi = some .char) (hx : narrow .char (.int x) = .int x) : nr mi x := ⟨.char, h, hx⟩

theorem c_X1_bare {X : XS} {h : AH} {Q : AO → AH → Prop} {m a : Int32} (hq : Q (.inl (some (.int (g_bare m a)))) h) : Call X 8 [.int m, .int a] h Q := by
  refine call_of (by decide) rfl rfl ?_
  refine a_iload_n (i := 0) q8_0 rfl rfl ?_
  refine a_bipush (v := 14) q8_1 (by decide) ?_
  refine a_ishl q8_3 ?_
  refine a_iload_n (i := 1) q8_4 rfl rfl ?_
  refine a_bipush (v := 12) q8_5 (by decide) ?_
  refine a_ishl q8_7 ?_
  refine a_ior q8_8 ?_
  refine a_ireturn q8_9 (nr_int rfl _) ?_
  exact hq

theorem c_X1_markOf {X : XS} {h : AH} {Q : AO → AH → Prop} {c : Int32} (hq : Q (.inl (some (.int (g_mark c)))) h) : Call X 9 [.int c] h Q := by
  refine call_of (by decide) rfl rfl ?_
  refine a_iload_n (i := 0) q9_0 rfl rfl ?_
  refine a_bipush (v := 14) q9_1 (by decide) ?_
  refine a_ishr q9_3 ?_
  refine a_bipush (v := 127) q9_4 (by decide) ?_
  refine a_iand q9_6 ?_
  refine a_i2c q9_7 ?_
  refine a_ireturn q9_8 (nr_char rfl (pk_nc _)) ?_
  exact hq

theorem c_X1_aggregateOf {X : XS} {h : AH} {Q : AO → AH → Prop} {c : Int32} (hq : Q (.inl (some (.int (g_agg c)))) h) : Call X 10 [.int c] h Q := by
  refine call_of (by decide) rfl rfl ?_
  refine a_iload_n (i := 0) q10_0 rfl rfl ?_
  refine a_bipush (v := 12) q10_1 (by decide) ?_
  refine a_ishr q10_3 ?_
  refine a_iconst (v := 3) q10_4 (by decide) ?_
  refine a_iand q10_5 ?_
  refine a_ireturn q10_6 (nr_int rfl _) ?_
  exact hq

theorem c_X1_columnIn {X : XS} {h : AH} {Q : AO → AH → Prop} {c k : Int32} (hq : Q (.inl (some (.int (g_col c k)))) h) : Call X 11 [.int c, .int k] h Q := by
  refine call_of (by decide) rfl rfl ?_
  refine a_iload_n (i := 0) q11_0 rfl rfl ?_
  refine a_iconst (v := 3) q11_1 (by decide) ?_
  refine a_iload_n (i := 1) q11_2 rfl rfl ?_
  refine a_isub q11_3 ?_
  refine a_iconst (v := 3) q11_4 (by decide) ?_
  refine a_imul q11_5 ?_
  refine a_ishr q11_6 ?_
  refine a_bipush (v := 7) q11_7 (by decide) ?_
  refine a_iand q11_9 ?_
  refine a_iconst (v := 1) q11_10 (by decide) ?_
  refine a_isub q11_11 ?_
  refine a_ireturn q11_12 (nr_int rfl _) ?_
  exact hq

theorem c_X1_withColumn {X : XS} {h : AH} {Q : AO → AH → Prop} {c k x : Int32} (hq : Q (.inl (some (.int (g_wCol c k x)))) h) : Call X 12 [.int c, .int k, .int x] h Q := by
  refine call_of (by decide) rfl rfl ?_
  refine a_iconst (v := 3) q12_0 (by decide) ?_
  refine a_iload_n (i := 1) q12_1 rfl rfl ?_
  refine a_isub q12_2 ?_
  refine a_iconst (v := 3) q12_3 (by decide) ?_
  refine a_imul q12_4 ?_
  refine a_istore_n (i := 3) (lv' := [(0, _), (1, _), (2, _), (3, _)]) q12_5 rfl rfl rfl ?_
  refine a_iload_n (i := 0) q12_6 rfl rfl ?_
  refine a_bipush (v := 7) q12_7 (by decide) ?_
  refine a_iload_n (i := 3) q12_9 rfl rfl ?_
  refine a_ishl q12_10 ?_
  refine a_iconst (v := (-1)) q12_11 (by decide) ?_
  refine a_ixor q12_12 ?_
  refine a_iand q12_13 ?_
  refine a_iload_n (i := 2) q12_14 rfl rfl ?_
  refine a_iconst (v := 1) q12_15 (by decide) ?_
  refine a_iadd q12_16 ?_
  refine a_iload_n (i := 3) q12_17 rfl rfl ?_
  refine a_ishl q12_18 ?_
  refine a_ior q12_19 ?_
  refine a_ireturn q12_20 (nr_int rfl _) ?_
  exact hq

theorem c_X1_columnSet {X : XS} {h : AH} {Q : AO → AH → Prop} {c : Int32} (hq : Q (.inl (some (.int (g_set c)))) h) : Call X 13 [.int c] h Q := by
  refine call_of (by decide) rfl rfl ?_
  refine a_iconst (v := 0) q13_0 (by decide) ?_
  refine a_istore_n (i := 1) (lv' := [(0, _), (1, _)]) q13_1 rfl rfl rfl ?_
  refine a_iconst (v := 0) q13_2 (by decide) ?_
  refine a_istore_n (i := 2) (lv' := [(0, _), (1, _), (2, _)]) q13_3 rfl rfl rfl ?_
  refine a_iload_n (i := 2) q13_4 rfl rfl ?_
  refine a_bipush (v := 12) q13_5 (by decide) ?_
  refine a_icmp_ge (tgt := 27) q13_7 (by decide) (fun zc7 => absurd zc7 (by decide)) (fun zc7 => ?_)
  refine a_iload_n (i := 1) q13_10 rfl rfl ?_
  refine a_iconst (v := 1) q13_11 (by decide) ?_
  refine a_iload_n (i := 0) q13_12 rfl rfl ?_
  refine a_iload_n (i := 2) q13_13 rfl rfl ?_
  refine a_ishr q13_14 ?_
  refine a_bipush (v := 7) q13_15 (by decide) ?_
  refine a_iand q13_17 ?_
  refine a_ishl q13_18 ?_
  refine a_ior q13_19 ?_
  refine a_istore_n (i := 1) (lv' := [(0, _), (1, _), (2, _)]) q13_20 rfl rfl rfl ?_
  refine a_iinc (lv' := [(0, _), (1, _), (2, _)]) q13_21 rfl rfl rfl rfl ?_
  refine a_goto (tgt := 4) q13_24 (by decide) ?_
  refine a_iload_n (i := 2) q13_4 rfl rfl ?_
  refine a_bipush (v := 12) q13_5 (by decide) ?_
  refine a_icmp_ge (tgt := 27) q13_7 (by decide) (fun zc7_1 => absurd zc7_1 (by decide)) (fun zc7_1 => ?_)
  refine a_iload_n (i := 1) q13_10 rfl rfl ?_
  refine a_iconst (v := 1) q13_11 (by decide) ?_
  refine a_iload_n (i := 0) q13_12 rfl rfl ?_
  refine a_iload_n (i := 2) q13_13 rfl rfl ?_
  refine a_ishr q13_14 ?_
  refine a_bipush (v := 7) q13_15 (by decide) ?_
  refine a_iand q13_17 ?_
  refine a_ishl q13_18 ?_
  refine a_ior q13_19 ?_
  refine a_istore_n (i := 1) (lv' := [(0, _), (1, _), (2, _)]) q13_20 rfl rfl rfl ?_
  refine a_iinc (lv' := [(0, _), (1, _), (2, _)]) q13_21 rfl rfl rfl rfl ?_
  refine a_goto (tgt := 4) q13_24 (by decide) ?_
  refine a_iload_n (i := 2) q13_4 rfl rfl ?_
  refine a_bipush (v := 12) q13_5 (by decide) ?_
  refine a_icmp_ge (tgt := 27) q13_7 (by decide) (fun zc7_2 => absurd zc7_2 (by decide)) (fun zc7_2 => ?_)
  refine a_iload_n (i := 1) q13_10 rfl rfl ?_
  refine a_iconst (v := 1) q13_11 (by decide) ?_
  refine a_iload_n (i := 0) q13_12 rfl rfl ?_
  refine a_iload_n (i := 2) q13_13 rfl rfl ?_
  refine a_ishr q13_14 ?_
  refine a_bipush (v := 7) q13_15 (by decide) ?_
  refine a_iand q13_17 ?_
  refine a_ishl q13_18 ?_
  refine a_ior q13_19 ?_
  refine a_istore_n (i := 1) (lv' := [(0, _), (1, _), (2, _)]) q13_20 rfl rfl rfl ?_
  refine a_iinc (lv' := [(0, _), (1, _), (2, _)]) q13_21 rfl rfl rfl rfl ?_
  refine a_goto (tgt := 4) q13_24 (by decide) ?_
  refine a_iload_n (i := 2) q13_4 rfl rfl ?_
  refine a_bipush (v := 12) q13_5 (by decide) ?_
  refine a_icmp_ge (tgt := 27) q13_7 (by decide) (fun zc7_3 => absurd zc7_3 (by decide)) (fun zc7_3 => ?_)
  refine a_iload_n (i := 1) q13_10 rfl rfl ?_
  refine a_iconst (v := 1) q13_11 (by decide) ?_
  refine a_iload_n (i := 0) q13_12 rfl rfl ?_
  refine a_iload_n (i := 2) q13_13 rfl rfl ?_
  refine a_ishr q13_14 ?_
  refine a_bipush (v := 7) q13_15 (by decide) ?_
  refine a_iand q13_17 ?_
  refine a_ishl q13_18 ?_
  refine a_ior q13_19 ?_
  refine a_istore_n (i := 1) (lv' := [(0, _), (1, _), (2, _)]) q13_20 rfl rfl rfl ?_
  refine a_iinc (lv' := [(0, _), (1, _), (2, _)]) q13_21 rfl rfl rfl rfl ?_
  refine a_goto (tgt := 4) q13_24 (by decide) ?_
  refine a_iload_n (i := 2) q13_4 rfl rfl ?_
  refine a_bipush (v := 12) q13_5 (by decide) ?_
  refine a_icmp_ge (tgt := 27) q13_7 (by decide) (fun zc7_4 => ?_) (fun zc7_4 => absurd (by decide) zc7_4)
  refine a_iload_n (i := 1) q13_27 rfl rfl ?_
  refine a_iconst (v := 1) q13_28 (by decide) ?_
  refine a_ishr q13_29 ?_
  refine a_ireturn q13_30 (nr_int rfl _) ?_
  exact hq

theorem c_X1_holds {X : XS} {h : AH} {Q : AO → AH → Prop} {c x : Int32} (hq : Q (.inl (some (.int (b2i (g_holds c x))))) h) : Call X 14 [.int c, .int x] h Q := by
  refine call_of (by decide) rfl rfl ?_
  refine a_iload_n (i := 1) q14_0 rfl rfl ?_
  refine a_iconst (v := (-1)) q14_1 (by decide) ?_
  refine a_icmp_eq (tgt := 20) q14_2 (by decide) (fun zc2 => ?_) (fun zc2 => ?_)
  · skip
    refine a_iconst (v := 0) q14_20 (by decide) ?_
    refine a_ireturn q14_21 (nr_bool rfl (by decide)) ?_
    exact lfi hq (by have zl := lits; unfold b2i; split <;> (simp only [isCol, g_holds, isChan, isMk, isVal, isRow, i_lt, i_le, i_eq] at * <;> omega))
  · skip
    refine a_iload_n (i := 0) q14_5 rfl rfl ?_
    refine a_cs1 q14_6 rfl ⟨rfl, rfl⟩ rfl ?_
    refine c_X1_columnSet ?_
    refine ck_r ?_
    refine a_iload_n (i := 1) q14_9 rfl rfl ?_
    refine a_ishr q14_10 ?_
    refine a_iconst (v := 1) q14_11 (by decide) ?_
    refine a_iand q14_12 ?_
    refine a_if_eq (tgt := 20) q14_13 (by decide) (fun zc13 => ?_) (fun zc13 => ?_)
    · skip
      refine a_iconst (v := 0) q14_20 (by decide) ?_
      refine a_ireturn q14_21 (nr_bool rfl (by decide)) ?_
      exact lfi hq (by have zl := lits; unfold b2i; split <;> (simp only [isCol, g_holds, isChan, isMk, isVal, isRow, i_lt, i_le, i_eq] at * <;> omega))
    · skip
      refine a_iconst (v := 1) q14_16 (by decide) ?_
      refine a_goto (tgt := 21) q14_17 (by decide) ?_
      refine a_ireturn q14_21 (nr_bool rfl (by decide)) ?_
      exact lfi hq (by have zl := lits; unfold b2i; split <;> (simp only [isCol, g_holds, isChan, isMk, isVal, isRow, i_lt, i_le, i_eq] at * <;> omega))

def p_of (c x : Int32) : Int64 := (c.toInt64 <<< (((24 : Int32).toInt64) &&& 63)) ||| x.toInt64
def p_cost (p : Int64) : Int32 := (p >>> (((24 : Int32).toInt64) &&& 63)).toInt32
def p_chart (p : Int64) : Int32 := (p &&& 16777215).toInt32

theorem c_X5_of {X : XS} {h : AH} {Q : AO → AH → Prop} {c x : Int32} (hq : Q (.inl (some (.long (p_of c x)))) h) : Call X 34 [.int c, .int x] h Q := by
  refine call_of (by decide) rfl rfl ?_
  refine a_iload_n (i := 0) q34_0 rfl rfl ?_
  refine a_i2l q34_1 ?_
  refine a_bipush (v := 24) q34_2 (by decide) ?_
  refine a_lshl q34_4 ?_
  refine a_iload_n (i := 1) q34_5 rfl rfl ?_
  refine a_i2l q34_6 ?_
  refine a_lor q34_7 ?_
  refine a_lreturn q34_8 rfl ?_
  exact hq

theorem c_X5_costOf {X : XS} {h : AH} {Q : AO → AH → Prop} {p : Int64} (hq : Q (.inl (some (.int (p_cost p)))) h) : Call X 35 [.long p] h Q := by
  refine call_of (by decide) rfl rfl ?_
  refine a_lload_n (i := 0) q35_0 rfl rfl ?_
  refine a_bipush (v := 24) q35_1 (by decide) ?_
  refine a_lshr q35_3 ?_
  refine a_l2i q35_4 ?_
  refine a_ireturn q35_5 (nr_int rfl _) ?_
  exact hq

theorem c_X5_chartOf {X : XS} {h : AH} {Q : AO → AH → Prop} {p : Int64} (hq : Q (.inl (some (.int (p_chart p)))) h) : Call X 36 [.long p] h Q := by
  refine call_of (by decide) rfl rfl ?_
  refine a_lload_n (i := 0) q36_0 rfl rfl ?_
  refine a_ldc2 (v := 16777215) q36_1 (by decide) ?_
  refine a_land q36_4 ?_
  refine a_l2i q36_5 ?_
  refine a_ireturn q36_6 (nr_int rfl _) ?_
  exact hq

theorem c_X7_rowCount {X : XS} {I : Nat → Int32} {A : Nat → Nat → Int32} {L : Nat → Nat → Int64} {O : AH} {Q : AO → AH → Prop}  (hq : Q (.inl (some (.int (I 2)))) (hp I A L O)) : Call X 44 [.ref 2] (hp I A L O) Q := by
  refine call_of (by decide) rfl rfl ?_
  refine a_aload_n (i := 0) q44_0 rfl rfl ?_
  refine a_getfield q44_1 rfl rfl ?_
  refine a_ireturn q44_4 (nr_int rfl _) ?_
  exact hq

theorem c_X7_hasRow {X : XS} {I : Nat → Int32} {A : Nat → Nat → Int32} {L : Nat → Nat → Int64} {O : AH} {Q : AO → AH → Prop} {r : Int32} (hq : Q (.inl (some (.int (b2i (isRow I r))))) (hp I A L O)) : Call X 45 [.ref 2, .int r] (hp I A L O) Q := by
  refine call_of (by decide) rfl rfl ?_
  refine a_iload_n (i := 1) q45_0 rfl rfl ?_
  refine a_if_lt (tgt := 22) q45_1 (by decide) (fun zc1 => ?_) (fun zc1 => ?_)
  · skip
    refine a_iconst (v := 0) q45_22 (by decide) ?_
    refine a_ireturn q45_23 (nr_bool rfl (by decide)) ?_
    exact lfi hq (by have zl := lits; unfold b2i; split <;> (simp only [isCol, isChan, isMk, isVal, isRow, i_lt, i_le, i_eq] at * <;> omega))
  · skip
    refine a_iload_n (i := 1) q45_4 rfl rfl ?_
    refine a_aload_n (i := 0) q45_5 rfl rfl ?_
    refine a_getfield q45_6 rfl rfl ?_
    refine a_icmp_ge (tgt := 22) q45_9 (by decide) (fun zc9 => ?_) (fun zc9 => ?_)
    · skip
      refine a_iconst (v := 0) q45_22 (by decide) ?_
      refine a_ireturn q45_23 (nr_bool rfl (by decide)) ?_
      exact lfi hq (by have zl := lits; unfold b2i; split <;> (simp only [isCol, isChan, isMk, isVal, isRow, i_lt, i_le, i_eq] at * <;> omega))
    · skip
      refine a_iload_n (i := 1) q45_12 rfl rfl ?_
      refine a_bipush (v := 40) q45_13 (by decide) ?_
      refine a_icmp_ge (tgt := 22) q45_15 (by decide) (fun zc15 => ?_) (fun zc15 => ?_)
      · skip
        refine a_iconst (v := 0) q45_22 (by decide) ?_
        refine a_ireturn q45_23 (nr_bool rfl (by decide)) ?_
        exact lfi hq (by have zl := lits; unfold b2i; split <;> (simp only [isCol, isChan, isMk, isVal, isRow, i_lt, i_le, i_eq] at * <;> omega))
      · skip
        refine a_iconst (v := 1) q45_18 (by decide) ?_
        refine a_goto (tgt := 23) q45_19 (by decide) ?_
        refine a_ireturn q45_23 (nr_bool rfl (by decide)) ?_
        exact lfi hq (by have zl := lits; unfold b2i; split <;> (simp only [isCol, isChan, isMk, isVal, isRow, i_lt, i_le, i_eq] at * <;> omega))

def f_kindAt (A : Nat → Nat → Int32) (c : Int32) : Int32 := if isCol c then A 4 c.toNatClampNeg else -1
theorem c_X7_kindAt {X : XS} {I : Nat → Int32} {A : Nat → Nat → Int32} {L : Nat → Nat → Int64} {O : AH} {Q : AO → AH → Prop} {c : Int32} (hq : Q (.inl (some (.int (f_kindAt A c)))) (hp I A L O)) : Call X 47 [.ref 2, .int c] (hp I A L O) Q := by
  refine call_of (by decide) rfl rfl ?_
  refine a_iload_n (i := 1) q47_0 rfl rfl ?_
  refine a_if_lt (tgt := 19) q47_1 (by decide) (fun zc1 => ?_) (fun zc1 => ?_)
  · skip
    refine a_iconst (v := (-1)) q47_19 (by decide) ?_
    refine a_ireturn q47_20 (nr_int rfl _) ?_
    exact lfi hq (by have zl := lits; unfold f_kindAt; split <;> (simp only [isCol, isChan, isMk, isVal, isRow, i_lt, i_le, i_eq] at * <;> omega))
  · skip
    refine a_iload_n (i := 1) q47_4 rfl rfl ?_
    refine a_bipush (v := 6) q47_5 (by decide) ?_
    refine a_icmp_ge (tgt := 19) q47_7 (by decide) (fun zc7 => ?_) (fun zc7 => ?_)
    · skip
      refine a_iconst (v := (-1)) q47_19 (by decide) ?_
      refine a_ireturn q47_20 (nr_int rfl _) ?_
      exact lfi hq (by have zl := lits; unfold f_kindAt; split <;> (simp only [isCol, isChan, isMk, isVal, isRow, i_lt, i_le, i_eq] at * <;> omega))
    · skip
      refine a_aload_n (i := 0) q47_10 rfl rfl ?_
      refine a_getfield q47_11 rfl rfl ?_
      refine a_iload_n (i := 1) q47_14 rfl rfl ?_
      refine a_iald q47_15 rfl (vpi (N := 6) zc1 zc7 rfl) ?_
      refine a_goto (tgt := 20) q47_16 (by decide) ?_
      refine a_ireturn q47_20 (nr_int rfl _) ?_
      exact lfi hq (by have zl := lits; unfold f_kindAt; split <;> (simp only [isCol, isChan, isMk, isVal, isRow, i_lt, i_le, i_eq] at * <;> omega))

def f_forcedKindAt (A : Nat → Nat → Int32) (c : Int32) : Int32 := if isCol c then A 3 c.toNatClampNeg else -1
theorem c_X7_forcedKindAt {X : XS} {I : Nat → Int32} {A : Nat → Nat → Int32} {L : Nat → Nat → Int64} {O : AH} {Q : AO → AH → Prop} {c : Int32} (hq : Q (.inl (some (.int (f_forcedKindAt A c)))) (hp I A L O)) : Call X 48 [.ref 2, .int c] (hp I A L O) Q := by
  refine call_of (by decide) rfl rfl ?_
  refine a_iload_n (i := 1) q48_0 rfl rfl ?_
  refine a_cs1 q48_1 rfl ⟨rfl, rfl⟩ rfl ?_
  refine c_X9_isColumn ?_
  refine ck_r ?_
  refine a_if_eq (tgt := 16) q48_4 (by decide) (fun zc4 => ?_) (fun zc4 => ?_)
  · skip
    refine a_iconst (v := (-1)) q48_16 (by decide) ?_
    refine a_ireturn q48_17 (nr_int rfl _) ?_
    exact lfi hq (by simp only [f_forcedKindAt]; rw [if_neg (b2i_z.mp zc4)])
  · skip
    refine a_aload_n (i := 0) q48_7 rfl rfl ?_
    refine a_getfield q48_8 rfl rfl ?_
    refine a_iload_n (i := 1) q48_11 rfl rfl ?_
    refine a_iald q48_12 rfl (isCol_in (b2i_nz.mp zc4)) ?_
    refine a_goto (tgt := 17) q48_13 (by decide) ?_
    refine a_ireturn q48_17 (nr_int rfl _) ?_
    exact lfi hq (by simp only [f_forcedKindAt]; rw [if_pos (b2i_nz.mp zc4)])

def f_countIn (A : Nat → Nat → Int32) (c : Int32) : Int32 := if isCol c then A 5 c.toNatClampNeg else 0
theorem c_X7_countIn {X : XS} {I : Nat → Int32} {A : Nat → Nat → Int32} {L : Nat → Nat → Int64} {O : AH} {Q : AO → AH → Prop} {c : Int32} (hq : Q (.inl (some (.int (f_countIn A c)))) (hp I A L O)) : Call X 49 [.ref 2, .int c] (hp I A L O) Q := by
  refine call_of (by decide) rfl rfl ?_
  refine a_iload_n (i := 1) q49_0 rfl rfl ?_
  refine a_cs1 q49_1 rfl ⟨rfl, rfl⟩ rfl ?_
  refine c_X9_isColumn ?_
  refine ck_r ?_
  refine a_if_eq (tgt := 16) q49_4 (by decide) (fun zc4 => ?_) (fun zc4 => ?_)
  · skip
    refine a_iconst (v := 0) q49_16 (by decide) ?_
    refine a_ireturn q49_17 (nr_int rfl _) ?_
    exact lfi hq (by simp only [f_countIn]; rw [if_neg (b2i_z.mp zc4)])
  · skip
    refine a_aload_n (i := 0) q49_7 rfl rfl ?_
    refine a_getfield q49_8 rfl rfl ?_
    refine a_iload_n (i := 1) q49_11 rfl rfl ?_
    refine a_iald q49_12 rfl (isCol_in (b2i_nz.mp zc4)) ?_
    refine a_goto (tgt := 17) q49_13 (by decide) ?_
    refine a_ireturn q49_17 (nr_int rfl _) ?_
    exact lfi hq (by simp only [f_countIn]; rw [if_pos (b2i_nz.mp zc4)])

def f_differentIn (A : Nat → Nat → Int32) (c : Int32) : Int32 := if isCol c then A 6 c.toNatClampNeg else 0
theorem c_X7_differentIn {X : XS} {I : Nat → Int32} {A : Nat → Nat → Int32} {L : Nat → Nat → Int64} {O : AH} {Q : AO → AH → Prop} {c : Int32} (hq : Q (.inl (some (.int (f_differentIn A c)))) (hp I A L O)) : Call X 50 [.ref 2, .int c] (hp I A L O) Q := by
  refine call_of (by decide) rfl rfl ?_
  refine a_iload_n (i := 1) q50_0 rfl rfl ?_
  refine a_cs1 q50_1 rfl ⟨rfl, rfl⟩ rfl ?_
  refine c_X9_isColumn ?_
  refine ck_r ?_
  refine a_if_eq (tgt := 16) q50_4 (by decide) (fun zc4 => ?_) (fun zc4 => ?_)
  · skip
    refine a_iconst (v := 0) q50_16 (by decide) ?_
    refine a_ireturn q50_17 (nr_int rfl _) ?_
    exact lfi hq (by simp only [f_differentIn]; rw [if_neg (b2i_z.mp zc4)])
  · skip
    refine a_aload_n (i := 0) q50_7 rfl rfl ?_
    refine a_getfield q50_8 rfl rfl ?_
    refine a_iload_n (i := 1) q50_11 rfl rfl ?_
    refine a_iald q50_12 rfl (isCol_in (b2i_nz.mp zc4)) ?_
    refine a_goto (tgt := 17) q50_13 (by decide) ?_
    refine a_ireturn q50_17 (nr_int rfl _) ?_
    exact lfi hq (by simp only [f_differentIn]; rw [if_pos (b2i_nz.mp zc4)])

def f_sumIn (L : Nat → Nat → Int64) (c : Int32) : Int64 := if isCol c then L 7 c.toNatClampNeg else 0
theorem lfl {Q : AO → AH → Prop} {x y : Int64} {h : AH} (hq : Q (.inl (some (.long x))) h) (e : y = x) : Q (.inl (some (.long y))) h := e ▸ hq
theorem c_X7_sumIn {X : XS} {I : Nat → Int32} {A : Nat → Nat → Int32} {L : Nat → Nat → Int64} {O : AH} {Q : AO → AH → Prop} {c : Int32} (hq : Q (.inl (some (.long (f_sumIn L c)))) (hp I A L O)) : Call X 51 [.ref 2, .int c] (hp I A L O) Q := by
  refine call_of (by decide) rfl rfl ?_
  refine a_iload_n (i := 1) q51_0 rfl rfl ?_
  refine a_cs1 q51_1 rfl ⟨rfl, rfl⟩ rfl ?_
  refine c_X9_isColumn ?_
  refine ck_r ?_
  refine a_if_eq (tgt := 16) q51_4 (by decide) (fun zc4 => ?_) (fun zc4 => ?_)
  · skip
    refine a_lconst (v := 0) q51_16 (by decide) ?_
    refine a_lreturn q51_17 rfl ?_
    exact lfl hq (by simp only [f_sumIn]; rw [if_neg (b2i_z.mp zc4)])
  · skip
    refine a_aload_n (i := 0) q51_7 rfl rfl ?_
    refine a_getfield q51_8 rfl rfl ?_
    refine a_iload_n (i := 1) q51_11 rfl rfl ?_
    refine a_lald q51_12 rfl (isCol_in (b2i_nz.mp zc4)) ?_
    refine a_goto (tgt := 17) q51_13 (by decide) ?_
    refine a_lreturn q51_17 rfl ?_
    exact lfl hq (by simp only [f_sumIn]; rw [if_pos (b2i_nz.mp zc4)])

def f_gapsIn (L : Nat → Nat → Int64) (c : Int32) : Int64 := if isCol c then L 8 c.toNatClampNeg else 0
theorem c_X7_gapsIn {X : XS} {I : Nat → Int32} {A : Nat → Nat → Int32} {L : Nat → Nat → Int64} {O : AH} {Q : AO → AH → Prop} {c : Int32} (hq : Q (.inl (some (.long (f_gapsIn L c)))) (hp I A L O)) : Call X 52 [.ref 2, .int c] (hp I A L O) Q := by
  refine call_of (by decide) rfl rfl ?_
  refine a_iload_n (i := 1) q52_0 rfl rfl ?_
  refine a_cs1 q52_1 rfl ⟨rfl, rfl⟩ rfl ?_
  refine c_X9_isColumn ?_
  refine ck_r ?_
  refine a_if_eq (tgt := 16) q52_4 (by decide) (fun zc4 => ?_) (fun zc4 => ?_)
  · skip
    refine a_lconst (v := 0) q52_16 (by decide) ?_
    refine a_lreturn q52_17 rfl ?_
    exact lfl hq (by simp only [f_gapsIn]; rw [if_neg (b2i_z.mp zc4)])
  · skip
    refine a_aload_n (i := 0) q52_7 rfl rfl ?_
    refine a_getfield q52_8 rfl rfl ?_
    refine a_iload_n (i := 1) q52_11 rfl rfl ?_
    refine a_lald q52_12 rfl (isCol_in (b2i_nz.mp zc4)) ?_
    refine a_goto (tgt := 17) q52_13 (by decide) ?_
    refine a_lreturn q52_17 rfl ?_
    exact lfl hq (by simp only [f_gapsIn]; rw [if_pos (b2i_nz.mp zc4)])

theorem c_X7_isDullKind {X : XS} {h : AH} {Q : AO → AH → Prop} {k : Int32} (hq : Q (.inl (some (.int (b2i (k = 0 ∨ k = 1))))) h) : Call X 53 [.int k] h Q := by
  refine call_of (by decide) rfl rfl ?_
  refine a_iload_n (i := 0) q53_0 rfl rfl ?_
  refine a_if_eq (tgt := 9) q53_1 (by decide) (fun zc1 => ?_) (fun zc1 => ?_)
  · skip
    refine a_iconst (v := 1) q53_9 (by decide) ?_
    refine a_goto (tgt := 14) q53_10 (by decide) ?_
    refine a_ireturn q53_14 (nr_bool rfl (by decide)) ?_
    exact lfi hq (by have zl := lits; unfold b2i; split <;> (simp only [isCol, isChan, isMk, isVal, isRow, i_lt, i_le, i_eq] at * <;> omega))
  · skip
    refine a_iload_n (i := 0) q53_4 rfl rfl ?_
    refine a_iconst (v := 1) q53_5 (by decide) ?_
    refine a_icmp_ne (tgt := 13) q53_6 (by decide) (fun zc6 => ?_) (fun zc6 => ?_)
    · skip
      refine a_iconst (v := 0) q53_13 (by decide) ?_
      refine a_ireturn q53_14 (nr_bool rfl (by decide)) ?_
      exact lfi hq (by have zl := lits; unfold b2i; split <;> (simp only [isCol, isChan, isMk, isVal, isRow, i_lt, i_le, i_eq] at * <;> omega))
    · skip
      refine a_iconst (v := 1) q53_9 (by decide) ?_
      refine a_goto (tgt := 14) q53_10 (by decide) ?_
      refine a_ireturn q53_14 (nr_bool rfl (by decide)) ?_
      exact lfi hq (by have zl := lits; unfold b2i; split <;> (simp only [isCol, isChan, isMk, isVal, isRow, i_lt, i_le, i_eq] at * <;> omega))

def g_kind (n u f r : Int32) : Int32 := if n = 0 then 0 else if u = 1 then 1 else if ¬ f = -1 then f else if 4 ≤ n ∧ ¬ r = 0 then 2 else if u ≤ 6 ∧ 2 * u ≤ n then 3 else 4
theorem c_X7_kindFrom {X : XS} {h : AH} {Q : AO → AH → Prop} {n u f r : Int32} (hq : Q (.inl (some (.int (g_kind n u f r)))) h) : Call X 63 [.int n, .int u, .int f, .int r] h Q := by
  refine call_of (by decide) rfl rfl ?_
  refine a_iload_n (i := 0) q63_0 rfl rfl ?_
  refine a_if_ne (tgt := 6) q63_1 (by decide) (fun zc1 => ?_) (fun zc1 => ?_)
  · skip
    refine a_iload_n (i := 1) q63_6 rfl rfl ?_
    refine a_iconst (v := 1) q63_7 (by decide) ?_
    refine a_icmp_ne (tgt := 13) q63_8 (by decide) (fun zc8 => ?_) (fun zc8 => ?_)
    · skip
      refine a_iload_n (i := 2) q63_13 rfl rfl ?_
      refine a_iconst (v := (-1)) q63_14 (by decide) ?_
      refine a_icmp_eq (tgt := 20) q63_15 (by decide) (fun zc15 => ?_) (fun zc15 => ?_)
      · skip
        refine a_iload_n (i := 0) q63_20 rfl rfl ?_
        refine a_iconst (v := 4) q63_21 (by decide) ?_
        refine a_icmp_lt (tgt := 31) q63_22 (by decide) (fun zc22 => ?_) (fun zc22 => ?_)
        · skip
          refine a_iload_n (i := 1) q63_31 rfl rfl ?_
          refine a_bipush (v := 6) q63_32 (by decide) ?_
          refine a_icmp_gt (tgt := 46) q63_34 (by decide) (fun zc34 => ?_) (fun zc34 => ?_)
          · skip
            refine a_iconst (v := 4) q63_46 (by decide) ?_
            refine a_ireturn q63_47 (nr_int rfl _) ?_
            exact lfi hq (by have zl := lits; unfold g_kind; (repeat' split) <;> (simp only [isCol, isChan, isMk, isVal, isRow, i_lt, i_le, i_eq] at * <;> omega))
          · skip
            refine a_iload_n (i := 0) q63_37 rfl rfl ?_
            refine a_iconst (v := 2) q63_38 (by decide) ?_
            refine a_iload_n (i := 1) q63_39 rfl rfl ?_
            refine a_imul q63_40 ?_
            refine a_icmp_lt (tgt := 46) q63_41 (by decide) (fun zc41 => ?_) (fun zc41 => ?_)
            · skip
              refine a_iconst (v := 4) q63_46 (by decide) ?_
              refine a_ireturn q63_47 (nr_int rfl _) ?_
              exact lfi hq (by have zl := lits; unfold g_kind; (repeat' split) <;> (simp only [isCol, isChan, isMk, isVal, isRow, i_lt, i_le, i_eq] at * <;> omega))
            · skip
              refine a_iconst (v := 3) q63_44 (by decide) ?_
              refine a_ireturn q63_45 (nr_int rfl _) ?_
              exact lfi hq (by have zl := lits; unfold g_kind; (repeat' split) <;> (simp only [isCol, isChan, isMk, isVal, isRow, i_lt, i_le, i_eq] at * <;> omega))
        · skip
          refine a_iload_n (i := 3) q63_25 rfl rfl ?_
          refine a_if_eq (tgt := 31) q63_26 (by decide) (fun zc26 => ?_) (fun zc26 => ?_)
          · skip
            refine a_iload_n (i := 1) q63_31 rfl rfl ?_
            refine a_bipush (v := 6) q63_32 (by decide) ?_
            refine a_icmp_gt (tgt := 46) q63_34 (by decide) (fun zc34 => ?_) (fun zc34 => ?_)
            · skip
              refine a_iconst (v := 4) q63_46 (by decide) ?_
              refine a_ireturn q63_47 (nr_int rfl _) ?_
              exact lfi hq (by have zl := lits; unfold g_kind; (repeat' split) <;> (simp only [isCol, isChan, isMk, isVal, isRow, i_lt, i_le, i_eq] at * <;> omega))
            · skip
              refine a_iload_n (i := 0) q63_37 rfl rfl ?_
              refine a_iconst (v := 2) q63_38 (by decide) ?_
              refine a_iload_n (i := 1) q63_39 rfl rfl ?_
              refine a_imul q63_40 ?_
              refine a_icmp_lt (tgt := 46) q63_41 (by decide) (fun zc41 => ?_) (fun zc41 => ?_)
              · skip
                refine a_iconst (v := 4) q63_46 (by decide) ?_
                refine a_ireturn q63_47 (nr_int rfl _) ?_
                exact lfi hq (by have zl := lits; unfold g_kind; (repeat' split) <;> (simp only [isCol, isChan, isMk, isVal, isRow, i_lt, i_le, i_eq] at * <;> omega))
              · skip
                refine a_iconst (v := 3) q63_44 (by decide) ?_
                refine a_ireturn q63_45 (nr_int rfl _) ?_
                exact lfi hq (by have zl := lits; unfold g_kind; (repeat' split) <;> (simp only [isCol, isChan, isMk, isVal, isRow, i_lt, i_le, i_eq] at * <;> omega))
          · skip
            refine a_iconst (v := 2) q63_29 (by decide) ?_
            refine a_ireturn q63_30 (nr_int rfl _) ?_
            exact lfi hq (by have zl := lits; unfold g_kind; (repeat' split) <;> (simp only [isCol, isChan, isMk, isVal, isRow, i_lt, i_le, i_eq] at * <;> omega))
      · skip
        refine a_iload_n (i := 2) q63_18 rfl rfl ?_
        refine a_ireturn q63_19 (nr_int rfl _) ?_
        exact lfi hq (by have zl := lits; unfold g_kind; (repeat' split) <;> (simp only [isCol, isChan, isMk, isVal, isRow, i_lt, i_le, i_eq] at * <;> omega))
    · skip
      refine a_iconst (v := 1) q63_11 (by decide) ?_
      refine a_ireturn q63_12 (nr_int rfl _) ?_
      exact lfi hq (by have zl := lits; unfold g_kind; (repeat' split) <;> (simp only [isCol, isChan, isMk, isVal, isRow, i_lt, i_le, i_eq] at * <;> omega))
  · skip
    refine a_iconst (v := 0) q63_4 (by decide) ?_
    refine a_ireturn q63_5 (nr_int rfl _) ?_
    exact lfi hq (by have zl := lits; unfold g_kind; (repeat' split) <;> (simp only [isCol, isChan, isMk, isVal, isRow, i_lt, i_le, i_eq] at * <;> omega))
