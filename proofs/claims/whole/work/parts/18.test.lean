theorem c_X1_columnIn {X : XS} {h : AH} {Q : AO → AH → Prop} {c k : Int32} (hq : Q (.inl (some (.int (((c >>> (((3 - k) * 3) &&& 31)) &&& 7) - 1)))) h) : Call X 11 [.int c, .int k] h Q := by
  refine call_of (by decide) rfl rfl ?_
  refine a_iload_n (i := 0) q11_0 rfl rfl ?_
  refine a_iconst (v := 3) q11_1 (by decide) ?_
  refine a_iload_n (i := 1) q11_2 rfl rfl ?_
  refine a_isub q11_3 ?_
  refine a_iconst (v := 3) q11_4 (by decide) ?_
  refine a_imul q11_5 ?_
  refine a_ishr q11_6 ?_
  refine a_bipush (v := 7) q11_7 (by decide) ?_
  refine a_iand q11_9 ?_
  refine a_iconst (v := 1) q11_10 (by decide) ?_
  refine a_isub q11_11 ?_
  refine a_ireturn q11_12 (nr_int rfl _) ?_
  exact hq

theorem c_X7_rowCount {X : XS} {I : Nat → Int32} {A : Nat → Nat → Int32} {L : Nat → Nat → Int64} {O : Nat → UInt64} {Q : AO → AH → Prop} (hq : Q (.inl (some (.int (I 2)))) (hp I A L O)) : Call X 53 [.ref 1] (hp I A L O) Q := by
  refine call_of (by decide) rfl rfl ?_
  refine a_aload_n (i := 0) q53_0 rfl rfl ?_
  refine a_getfield q53_1 rfl rfl ?_
  refine a_ireturn q53_4 (nr_int rfl _) ?_
  exact hq

def f_kindAt (A : Nat → Nat → Int32) (c : Int32) : Int32 := if c < 0 then -1 else if 6 ≤ c then -1 else A 4 c.toNatClampNeg

theorem vpi {x N : Int32} {n : Nat} (h0 : ¬ x < 0) (h1 : ¬ N ≤ x) (hN : N.toInt = n) : vp_in x n := by
  refine vp_in_iff.mpr ?_
  rw [Int32.lt_iff_toInt_lt] at h0
  rw [Int32.le_iff_toInt_le] at h1
  have : (0 : Int32).toInt = 0 := rfl
  omega

theorem c_X7_kindAt {X : XS} {I : Nat → Int32} {A : Nat → Nat → Int32} {L : Nat → Nat → Int64} {O : Nat → UInt64} {Q : AO → AH → Prop} {c : Int32} (hq : Q (.inl (some (.int (f_kindAt A c)))) (hp I A L O)) : Call X 56 [.ref 1, .int c] (hp I A L O) Q := by
  refine call_of (by decide) rfl rfl ?_
  refine a_iload_n (i := 1) q56_0 rfl rfl ?_
  refine a_if_lt (tgt := 19) q56_1 (by decide) (fun c1 => ?_) (fun c1 => ?_)
  · skip
    refine a_iconst (v := (-1)) q56_19 (by decide) ?_
    refine a_ireturn q56_20 (nr_int rfl _) ?_
    exact lfi hq (by simp only [f_kindAt]; rw [if_pos c1])
  · skip
    refine a_iload_n (i := 1) q56_4 rfl rfl ?_
    refine a_bipush (v := 6) q56_5 (by decide) ?_
    refine a_icmp_ge (tgt := 19) q56_7 (by decide) (fun c7 => ?_) (fun c7 => ?_)
    · skip
      refine a_iconst (v := (-1)) q56_19 (by decide) ?_
      refine a_ireturn q56_20 (nr_int rfl _) ?_
      exact lfi hq (by simp only [f_kindAt]; rw [if_neg c1, if_pos c7])
    · skip
      refine a_aload_n (i := 0) q56_10 rfl rfl ?_
      refine a_getfield q56_11 rfl rfl ?_
      refine a_iload_n (i := 1) q56_14 rfl rfl ?_
      refine a_iald q56_15 rfl (vpi (N := 6) c1 c7 rfl) ?_
      refine a_goto (tgt := 20) q56_16 (by decide) ?_
      refine a_ireturn q56_20 (nr_int rfl _) ?_
      exact lfi hq (by simp only [f_kindAt]; rw [if_neg c1, if_neg c7])
