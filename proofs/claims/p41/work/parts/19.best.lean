/-! derived rules; bit counts; the row of places -/
section DER
variable {X : XS} {mi pc : Nat} {lv : List (Nat × Value)} {rest : List Value} {h : AH} {bc bs : Nat} {Q : AO → AH → Prop}
theorem AW.ti {x y : Int32} (e : x = y) (k : AW X mi pc lv (.int y :: rest) h bc bs Q) : AW X mi pc lv (.int x :: rest) h bc bs Q := e ▸ k
theorem AW.tl {x y : Int64} (e : x = y) (k : AW X mi pc lv (.long y :: rest) h bc bs Q) : AW X mi pc lv (.long x :: rest) h bc bs Q := e ▸ k
theorem nI_cl {j n : Nat} (hj : j < n) (hn : Nat.ble n 100000 = true) : (nI j).toNatClampNeg = j := nI_clamp (by have := Nat.le_of_ble_eq_true hn; omega)
theorem nI_vp {j n : Nat} (hj : j < n) (hn : Nat.ble n 100000 = true) : vp_in (nI j) n := vp_in_nI hj (by have := Nat.le_of_ble_eq_true hn; omega)
theorem a_iald' {o n j : Nat} {f : Nat → Int32} {i : Int32} (d : decode (mB mi) pc = .ok (.iaload, 1)) (ho : h[o]? = some (.inr (0, n, .inl f))) (e : i = nI j) (hj : j < n) (hn : Nat.ble n 100000 = true) (k : AW X mi (pc + 1) lv (.int (f j) :: rest) h bc bs Q) : AW X mi pc lv (.int i :: .ref o :: rest) h bc bs Q := by
  subst e; exact a_iald d ho (nI_vp hj hn) (by rw [nI_cl hj hn]; exact k)
theorem a_lald' {o n j : Nat} {f : Nat → Int64} {i : Int32} (d : decode (mB mi) pc = .ok (.laload, 1)) (ho : h[o]? = some (.inr (1, n, .inr (.inl f)))) (e : i = nI j) (hj : j < n) (hn : Nat.ble n 100000 = true) (k : AW X mi (pc + 1) lv (.long (f j) :: rest) h bc bs Q) : AW X mi pc lv (.int i :: .ref o :: rest) h bc bs Q := by
  subst e; exact a_lald d ho (nI_vp hj hn) (by rw [nI_cl hj hn]; exact k)
theorem a_iast' {o n j : Nat} {f : Nat → Int32} {i x : Int32} {h' : AH} (d : decode (mB mi) pc = .ok (.iastore, 1)) (ho : h[o]? = some (.inr (0, n, .inl f))) (e : i = nI j) (hj : j < n) (hn : Nat.ble n 100000 = true) (hh : h.set o (.inr (0, n, .inl (upd f j x))) = h') (k : AW X mi (pc + 1) lv rest h' bc bs Q) : AW X mi pc lv (.int x :: .int i :: .ref o :: rest) h bc bs Q := by
  subst e; exact a_iast d ho (nI_vp hj hn) (by rw [nI_cl hj hn, hh]; exact k)
theorem a_last' {o n j : Nat} {f : Nat → Int64} {i : Int32} {x : Int64} {h' : AH} (d : decode (mB mi) pc = .ok (.lastore, 1)) (ho : h[o]? = some (.inr (1, n, .inr (.inl f)))) (e : i = nI j) (hj : j < n) (hn : Nat.ble n 100000 = true) (hh : h.set o (.inr (1, n, .inr (.inl (vp_updL f j x)))) = h') (k : AW X mi (pc + 1) lv rest h' bc bs Q) : AW X mi pc lv (.long x :: .int i :: .ref o :: rest) h bc bs Q := by
  subst e; exact a_last d ho (nI_vp hj hn) (by rw [nI_cl hj hn, hh]; exact k)
theorem AW.pop_less {x : Nat × Value} {lv' : List (Nat × Value)} (k : AW X mi pc lv' rest h bc bs Q) : AW X mi pc (lv' ++ [x]) rest h bc bs Q := AW.less (fun _ hq => List.mem_append_left _ hq) k
end DER
def g_b1 (x : Int32) : Int32 := x - ((x.toUInt32 >>> ((1 : Int32).toUInt32 &&& Int32.toUInt32 31)).toInt32 &&& 1431655765)
def g_b2 (x : Int32) : Int32 := (x &&& 858993459) + ((x.toUInt32 >>> ((2 : Int32).toUInt32 &&& Int32.toUInt32 31)).toInt32 &&& 858993459)
def g_b3 (x : Int32) : Int32 := (x + (x.toUInt32 >>> ((4 : Int32).toUInt32 &&& Int32.toUInt32 31)).toInt32) &&& 252645135
def g_b4 (x : Int32) : Int32 := x + (x.toUInt32 >>> ((8 : Int32).toUInt32 &&& Int32.toUInt32 31)).toInt32
def g_b5 (x : Int32) : Int32 := x + (x.toUInt32 >>> ((16 : Int32).toUInt32 &&& Int32.toUInt32 31)).toInt32
def g_bc (x : Int32) : Int32 := g_b5 (g_b4 (g_b3 (g_b2 (g_b1 x)))) &&& 63
abbrev ush (x : Int64) (k : Int32) : Int64 := (x.toUInt64 >>> (k.toInt64.toUInt64 &&& Int64.toUInt64 63)).toInt64
def g_l1 (x : Int64) : Int64 := x - (ush x 1 &&& 6148914691236517205)
def g_l2 (x : Int64) : Int64 := (x &&& 3689348814741910323) + (ush x 2 &&& 3689348814741910323)
def g_l3 (x : Int64) : Int64 := (x + ush x 4) &&& 1085102592571150095
def g_l4 (x : Int64) : Int64 := x + ush x 8
def g_l5 (x : Int64) : Int64 := x + ush x 16
def g_l6 (x : Int64) : Int64 := x + ush x 32
def g_lc (x : Int64) : Int32 := (g_l6 (g_l5 (g_l4 (g_l3 (g_l2 (g_l1 x)))))).toInt32 &&& 127

theorem c_J6_bitCount_0f7a4 {X : XS} {h : AH} {Q : AO → AH → Prop} {x : Int32} (hq : Q (.inl (some (.int (g_bc x)))) h) : Call X 106 [.int x] h Q := by
  refine call_of (by decide) rfl rfl ?_
  refine a_iload_n (i := 0) q106_0 rfl rfl ?_
  refine a_iload_n (i := 0) q106_1 rfl rfl ?_
  refine a_iconst (v := 1) q106_2 (by decide) ?_
  refine a_iushr q106_3 ?_
  refine a_ldc (v := 1431655765) q106_4 (by decide) ?_
  refine a_iand q106_7 ?_
  refine a_isub q106_8 ?_
  refine a_istore_n (i := 0) (lv' := [(0, _)]) q106_9 rfl rfl rfl ?_
  refine a_iload_n (i := 0) q106_10 rfl rfl ?_
  refine a_ldc (v := 858993459) q106_11 (by decide) ?_
  refine a_iand q106_14 ?_
  refine a_iload_n (i := 0) q106_15 rfl rfl ?_
  refine a_iconst (v := 2) q106_16 (by decide) ?_
  refine a_iushr q106_17 ?_
  refine a_ldc (v := 858993459) q106_18 (by decide) ?_
  refine a_iand q106_21 ?_
  refine a_iadd q106_22 ?_
  refine a_istore_n (i := 0) (lv' := [(0, _)]) q106_23 rfl rfl rfl ?_
  refine a_iload_n (i := 0) q106_24 rfl rfl ?_
  refine a_iload_n (i := 0) q106_25 rfl rfl ?_
  refine a_iconst (v := 4) q106_26 (by decide) ?_
  refine a_iushr q106_27 ?_
  refine a_iadd q106_28 ?_
  refine a_ldc (v := 252645135) q106_29 (by decide) ?_
  refine a_iand q106_32 ?_
  refine a_istore_n (i := 0) (lv' := [(0, _)]) q106_33 rfl rfl rfl ?_
  refine a_iload_n (i := 0) q106_34 rfl rfl ?_
  refine a_iload_n (i := 0) q106_35 rfl rfl ?_
  refine a_bipush (v := 8) q106_36 (by decide) ?_
  refine a_iushr q106_38 ?_
  refine a_iadd q106_39 ?_
  refine a_istore_n (i := 0) (lv' := [(0, _)]) q106_40 rfl rfl rfl ?_
  refine a_iload_n (i := 0) q106_41 rfl rfl ?_
  refine a_iload_n (i := 0) q106_42 rfl rfl ?_
  refine a_bipush (v := 16) q106_43 (by decide) ?_
  refine a_iushr q106_45 ?_
  refine a_iadd q106_46 ?_
  refine a_istore_n (i := 0) (lv' := [(0, _)]) q106_47 rfl rfl rfl ?_
  refine a_iload_n (i := 0) q106_48 rfl rfl ?_
  refine a_bipush (v := 63) q106_49 (by decide) ?_
  refine a_iand q106_51 ?_
  refine a_ireturn q106_52 (nr_int rfl _) ?_
  exact hq

theorem c_J13_bitCount_95d88 {X : XS} {h : AH} {Q : AO → AH → Prop} {x : Int64} (hq : Q (.inl (some (.int (g_lc x)))) h) : Call X 107 [.long x] h Q := by
  refine call_of (by decide) rfl rfl ?_
  refine a_lload_n (i := 0) q107_0 rfl rfl ?_
  refine a_lload_n (i := 0) q107_1 rfl rfl ?_
  refine a_iconst (v := 1) q107_2 (by decide) ?_
  refine a_lushr q107_3 ?_
  refine a_ldc2 (v := 6148914691236517205) q107_4 (by decide) ?_
  refine a_land q107_7 ?_
  refine a_lsub q107_8 ?_
  refine a_lstore_n (i := 0) (lv' := [(0, _)]) q107_9 rfl rfl rfl ?_
  refine a_lload_n (i := 0) q107_10 rfl rfl ?_
  refine a_ldc2 (v := 3689348814741910323) q107_11 (by decide) ?_
  refine a_land q107_14 ?_
  refine a_lload_n (i := 0) q107_15 rfl rfl ?_
  refine a_iconst (v := 2) q107_16 (by decide) ?_
  refine a_lushr q107_17 ?_
  refine a_ldc2 (v := 3689348814741910323) q107_18 (by decide) ?_
  refine a_land q107_21 ?_
  refine a_ladd q107_22 ?_
  refine a_lstore_n (i := 0) (lv' := [(0, _)]) q107_23 rfl rfl rfl ?_
  refine a_lload_n (i := 0) q107_24 rfl rfl ?_
  refine a_lload_n (i := 0) q107_25 rfl rfl ?_
  refine a_iconst (v := 4) q107_26 (by decide) ?_
  refine a_lushr q107_27 ?_
  refine a_ladd q107_28 ?_
  refine a_ldc2 (v := 1085102592571150095) q107_29 (by decide) ?_
  refine a_land q107_32 ?_
  refine a_lstore_n (i := 0) (lv' := [(0, _)]) q107_33 rfl rfl rfl ?_
  refine a_lload_n (i := 0) q107_34 rfl rfl ?_
  refine a_lload_n (i := 0) q107_35 rfl rfl ?_
  refine a_bipush (v := 8) q107_36 (by decide) ?_
  refine a_lushr q107_38 ?_
  refine a_ladd q107_39 ?_
  refine a_lstore_n (i := 0) (lv' := [(0, _)]) q107_40 rfl rfl rfl ?_
  refine a_lload_n (i := 0) q107_41 rfl rfl ?_
  refine a_lload_n (i := 0) q107_42 rfl rfl ?_
  refine a_bipush (v := 16) q107_43 (by decide) ?_
  refine a_lushr q107_45 ?_
  refine a_ladd q107_46 ?_
  refine a_lstore_n (i := 0) (lv' := [(0, _)]) q107_47 rfl rfl rfl ?_
  refine a_lload_n (i := 0) q107_48 rfl rfl ?_
  refine a_lload_n (i := 0) q107_49 rfl rfl ?_
  refine a_bipush (v := 32) q107_50 (by decide) ?_
  refine a_lushr q107_52 ?_
  refine a_ladd q107_53 ?_
  refine a_lstore_n (i := 0) (lv' := [(0, _)]) q107_54 rfl rfl rfl ?_
  refine a_lload_n (i := 0) q107_55 rfl rfl ?_
  refine a_l2i q107_56 ?_
  refine a_bipush (v := 127) q107_57 (by decide) ?_
  refine a_iand q107_59 ?_
  refine a_ireturn q107_60 (nr_int rfl _) ?_
  exact hq

abbrev isRk (k : Int32) (r : Int32) : Prop := 0 ≤ r ∧ r < k ∧ r < 5
def f_place (k : Int32) (f : Nat → Int64) (r : Int32) : Int64 := if isRk k r then f r.toNatClampNeg else 0
def offA (f : Nat → Int64) (p : Int64) : Nat → Nat → Int64
  | 0 => vp_updL f 0 p
  | a + 1 => if p < f a then offA (vp_updL f (a + 1) (f a)) p a else vp_updL f (a + 1) p
/-- a place is out of reach -/
abbrev ouR (k : Int32) (f : Nat → Int64) (p : Int64) : Prop := 5 ≤ k ∧ f 4 ≤ p

theorem c_X0_size_1 {X : XS} {I : Nat → Int32} {A : Nat → Nat → Int32} {L : Nat → Nat → Int64} {O : AH} {Q : AO → AH → Prop}  (hq : Q (.inl (some (.int (I 7)))) (hp I A L O)) : Call X 1 [.ref 14] (hp I A L O) Q := by
  refine call_of (by decide) rfl rfl ?_
  refine a_aload_n (i := 0) q1_0 rfl rfl ?_
  refine a_getfield q1_1 rfl rfl ?_
  refine a_ireturn q1_4 (nr_int rfl _) ?_
  exact hq

theorem c_X0_hasRank_1 {X : XS} {I : Nat → Int32} {A : Nat → Nat → Int32} {L : Nat → Nat → Int64} {O : AH} {Q : AO → AH → Prop} {r : Int32} (hq : Q (.inl (some (.int (b2i (isRk (I 7) r))))) (hp I A L O)) : Call X 2 [.ref 14, .int r] (hp I A L O) Q := by
  refine call_of (by decide) rfl rfl ?_
  refine a_iload_n (i := 1) q2_0 rfl rfl ?_
  refine a_if_lt (tgt := 25) q2_1 (by decide) (fun zc1 => ?_) (fun zc1 => ?_)
  · skip
    refine a_iconst (v := 0) q2_25 (by decide) ?_
    refine a_ireturn q2_26 (nr_bool rfl (by decide)) ?_
    exact lfi hq (by have zl := lits; unfold b2i; split <;> (simp only [isRk, i_lt, i_le, i_eq] at * <;> omega))
  · skip
    refine a_iload_n (i := 1) q2_4 rfl rfl ?_
    refine a_aload_n (i := 0) q2_5 rfl rfl ?_
    refine a_getfield q2_6 rfl rfl ?_
    refine a_icmp_ge (tgt := 25) q2_9 (by decide) (fun zc9 => ?_) (fun zc9 => ?_)
    · skip
      refine a_iconst (v := 0) q2_25 (by decide) ?_
      refine a_ireturn q2_26 (nr_bool rfl (by decide)) ?_
      exact lfi hq (by have zl := lits; unfold b2i; split <;> (simp only [isRk, i_lt, i_le, i_eq] at * <;> omega))
    · skip
      refine a_iload_n (i := 1) q2_12 rfl rfl ?_
      refine a_aload_n (i := 0) q2_13 rfl rfl ?_
      refine a_getfield q2_14 rfl rfl ?_
      refine a_alen (v := 5) q2_17 rfl (by decide) rfl ?_
      refine a_icmp_ge (tgt := 25) q2_18 (by decide) (fun zc18 => ?_) (fun zc18 => ?_)
      · skip
        refine a_iconst (v := 0) q2_25 (by decide) ?_
        refine a_ireturn q2_26 (nr_bool rfl (by decide)) ?_
        exact lfi hq (by have zl := lits; unfold b2i; split <;> (simp only [isRk, i_lt, i_le, i_eq] at * <;> omega))
      · skip
        refine a_iconst (v := 1) q2_21 (by decide) ?_
        refine a_goto (tgt := 26) q2_22 (by decide) ?_
        refine a_ireturn q2_26 (nr_bool rfl (by decide)) ?_
        exact lfi hq (by have zl := lits; unfold b2i; split <;> (simp only [isRk, i_lt, i_le, i_eq] at * <;> omega))

theorem c_X0_placeAt_1 {X : XS} {I : Nat → Int32} {A : Nat → Nat → Int32} {L : Nat → Nat → Int64} {O : AH} {Q : AO → AH → Prop} {r : Int32} (hq : Q (.inl (some (.long (f_place (I 7) (L 14) r)))) (hp I A L O)) : Call X 3 [.ref 14, .int r] (hp I A L O) Q := by
  refine call_of (by decide) rfl rfl ?_
  refine a_aload_n (i := 0) q3_0 rfl rfl ?_
  refine a_iload_n (i := 1) q3_1 rfl rfl ?_
  refine a_cv1 q3_2 rfl rfl ⟨rfl, rfl⟩ rfl ?_
  refine c_X0_hasRank_1 ?_
  refine ck_r ?_
  refine a_if_eq (tgt := 17) q3_5 (by decide) (fun zc5 => ?_) (fun zc5 => ?_)
  · skip
    refine a_lconst (v := 0) q3_17 (by decide) ?_
    refine a_lreturn q3_18 rfl ?_
    exact lfl hq (by simp only [f_place]; rw [if_neg (b2i_z.mp zc5)])
  · skip
    refine a_aload_n (i := 0) q3_8 rfl rfl ?_
    refine a_getfield q3_9 rfl rfl ?_
    refine a_iload_n (i := 1) q3_12 rfl rfl ?_
    refine a_lald q3_13 rfl (vpi (N := 5) (i_nlt.mpr (b2i_nz.mp zc5).1) (i_nle.mpr (b2i_nz.mp zc5).2.2) rfl) ?_
    refine a_goto (tgt := 18) q3_14 (by decide) ?_
    refine a_lreturn q3_18 rfl ?_
    exact lfl hq (by simp only [f_place]; rw [if_pos (b2i_nz.mp zc5)])

theorem c_X0_chartAt_1 {X : XS} {I : Nat → Int32} {A : Nat → Nat → Int32} {L : Nat → Nat → Int64} {O : AH} {Q : AO → AH → Prop} {r : Int32} (hq : Q (.inl (some (.int (p_chart (f_place (I 7) (L 14) r))))) (hp I A L O)) : Call X 4 [.ref 14, .int r] (hp I A L O) Q := by
  refine call_of (by decide) rfl rfl ?_
  refine a_aload_n (i := 0) q4_0 rfl rfl ?_
  refine a_iload_n (i := 1) q4_1 rfl rfl ?_
  refine a_cv1 q4_2 rfl rfl ⟨rfl, rfl⟩ rfl ?_
  refine c_X0_placeAt_1 ?_
  refine ck_r ?_
  refine a_cs1 q4_5 rfl ⟨rfl, rfl⟩ rfl ?_
  refine c_X5_chartOf ?_
  refine ck_r ?_
  refine a_ireturn q4_8 (nr_int rfl _) ?_
  exact hq

theorem c_X0_clear_1 {X : XS} {I : Nat → Int32} {A : Nat → Nat → Int32} {L : Nat → Nat → Int64} {O : AH} {Q : AO → AH → Prop}  (hq : Q (.inl none) (hp (va_up I 7 0) A L O)) : Call X 5 [.ref 14] (hp I A L O) Q := by
  refine call_of (by decide) rfl rfl ?_
  refine a_aload_n (i := 0) q5_0 rfl rfl ?_
  refine a_iconst (v := 0) q5_1 (by decide) ?_
  refine a_putfield q5_2 rfl rfl rfl rfl ?_
  refine AW.hp (h' := hp (va_up I 7 0) A L O) rfl ?_
  refine a_return q5_5 rfl ?_
  exact hq

theorem c_X0_isOutOfReach_1 {X : XS} {I : Nat → Int32} {A : Nat → Nat → Int32} {L : Nat → Nat → Int64} {O : AH} {Q : AO → AH → Prop} {p : Int64} (hq : Q (.inl (some (.int (b2i (ouR (I 7) (L 14) p))))) (hp I A L O)) : Call X 6 [.ref 14, .long p] (hp I A L O) Q := by
  refine call_of (by decide) rfl rfl ?_
  refine a_aload_n (i := 0) q6_0 rfl rfl ?_
  refine a_getfield q6_1 rfl rfl ?_
  refine a_iconst (v := 5) q6_4 (by decide) ?_
  refine a_icmp_lt (tgt := 23) q6_5 (by decide) (fun zc5 => ?_) (fun zc5 => ?_)
  · skip
    refine a_iconst (v := 0) q6_23 (by decide) ?_
    refine a_ireturn q6_24 (nr_bool rfl (by decide)) ?_
    exact lfi hq (by have zl := lits; exact (b2i_f (fun z : ouR _ _ _ => absurd z.1 (i_nle.mpr zc5))).symm)
  · skip
    refine a_lload_n (i := 1) q6_8 rfl rfl ?_
    refine a_aload_n (i := 0) q6_9 rfl rfl ?_
    refine a_getfield q6_10 rfl rfl ?_
    refine a_iconst (v := 4) q6_13 (by decide) ?_
    refine a_lald' (j := 4) q6_14 rfl rfl (by decide) (by decide) ?_
    refine a_lcmp q6_15 ?_
    refine a_if_lt (tgt := 23) q6_16 (by decide) (fun zc16 => ?_) (fun zc16 => ?_)
    · skip
      refine a_iconst (v := 0) q6_23 (by decide) ?_
      refine a_ireturn q6_24 (nr_bool rfl (by decide)) ?_
      exact lfi hq (by have zl := lits; exact (b2i_f (fun z : ouR _ _ _ => absurd ((lg_cmp_ge _ _).mpr z.2) (i_nle.mpr zc16))).symm)
    · skip
      refine a_iconst (v := 1) q6_19 (by decide) ?_
      refine a_goto (tgt := 24) q6_20 (by decide) ?_
      refine a_ireturn q6_24 (nr_bool rfl (by decide)) ?_
      exact lfi hq (by have zl := lits; exact (b2i_t (p := ouR _ _ _) ⟨i_nlt.mp zc5, (lg_cmp_ge _ _).mp (i_nlt.mp zc16)⟩).symm)

theorem lfh {Q : AO → AH → Prop} {o : AO} {h h' : AH} (hq : Q o h) (e : h = h') : Q o h' := e ▸ hq
theorem l_offer_1 (a : Nat) : ∀ {X : XS} {I : Nat → Int32} {A : Nat → Nat → Int32} {L : Nat → Nat → Int64} {O : AH} {Q : AO → AH → Prop} {p : Int64} (ha : a < 5) (hk : nI a < I 7) (hq : Q (.inl none) (hp I A (va_up L 14 (offA (L 14) p a)) O)), AW X 7 34 [(0, .ref 14), (1, .long p), (3, .int (nI a))] [] (hp I A L O) 0 0 Q := by
  induction a with
  | zero =>
    intro X I A L O Q p ha hk hq
    refine a_iload_n (i := 3) q7_34 rfl rfl ?_
    refine a_if_le (tgt := 80) q7_35 (by decide) (fun zc35 => ?_) (fun zc35 => absurd (show (nI 0 : Int32) ≤ 0 by decide) zc35)
    refine a_aload_n (i := 0) q7_80 rfl rfl ?_
    refine a_iload_n (i := 3) q7_81 rfl rfl ?_
    refine a_cv1 q7_82 rfl rfl ⟨rfl, rfl⟩ rfl ?_
    refine c_X0_hasRank_1 ?_
    refine ck_r ?_
    refine a_if_eq (tgt := 95) q7_85 (by decide) (fun zc85 => absurd zc85 (b2i_nz.mpr ⟨by decide, hk, by decide⟩)) (fun zc85 => ?_)
    refine a_aload_n (i := 0) q7_88 rfl rfl ?_
    refine a_getfield q7_89 rfl rfl ?_
    refine a_iload_n (i := 3) q7_92 rfl rfl ?_
    refine a_lload_n (i := 1) q7_93 rfl rfl ?_
    refine a_last' q7_94 rfl (j := 0) rfl (by decide) (by decide) (h' := hp I A (va_up L 14 (vp_updL (L 14) 0 p)) O) rfl ?_
    refine a_return q7_95 rfl ?_
    exact hq
  | succ a ih =>
    intro X I A L O Q p ha hk hq
    refine a_iload_n (i := 3) q7_34 rfl rfl ?_
    refine a_if_le (tgt := 80) q7_35 (by decide) (fun zc35 => absurd zc35 (nI_nle (Nat.succ_pos a) (by omega))) (fun zc35 => ?_)
    refine a_iload_n (i := 3) q7_38 rfl rfl ?_
    refine a_aload_n (i := 0) q7_39 rfl rfl ?_
    refine a_getfield q7_40 rfl rfl ?_
    refine a_alen (v := 5) q7_43 rfl (by decide) rfl ?_
    refine a_icmp_ge (tgt := 80) q7_44 (by decide) (fun zc44 => absurd zc44 (nI_ge (b := 5) (show a + 1 < 5 by omega) (by decide))) (fun zc44 => ?_)
    refine a_aload_n (i := 0) q7_47 rfl rfl ?_
    refine a_getfield q7_48 rfl rfl ?_
    refine a_iload_n (i := 3) q7_51 rfl rfl ?_
    refine a_iconst (v := 1) q7_52 (by decide) ?_
    refine a_isub q7_53 ?_
    refine AW.ti (nI_pred a) ?_
    refine a_lald' q7_54 rfl rfl (show a < 5 by omega) (by decide) ?_
    refine a_lload_n (i := 1) q7_55 rfl rfl ?_
    refine a_lcmp q7_56 ?_
    refine a_if_le (tgt := 80) q7_57 (by decide) (fun zc57 => ?_) (fun zc57 => ?_)
    · skip
      refine a_aload_n (i := 0) q7_80 rfl rfl ?_
      refine a_iload_n (i := 3) q7_81 rfl rfl ?_
      refine a_cv1 q7_82 rfl rfl ⟨rfl, rfl⟩ rfl ?_
      refine c_X0_hasRank_1 ?_
      refine ck_r ?_
      refine a_if_eq (tgt := 95) q7_85 (by decide) (fun zc85 => absurd zc85 (b2i_nz.mpr ⟨nI_pos' (by omega), hk, nI_lt (by omega) (by decide)⟩)) (fun zc85 => ?_)
      refine a_aload_n (i := 0) q7_88 rfl rfl ?_
      refine a_getfield q7_89 rfl rfl ?_
      refine a_iload_n (i := 3) q7_92 rfl rfl ?_
      refine a_lload_n (i := 1) q7_93 rfl rfl ?_
      refine a_last' q7_94 rfl (j := a + 1) rfl (by omega) (by decide) (h' := hp I A (va_up L 14 (vp_updL (L 14) (a + 1) p)) O) rfl ?_
      refine a_return q7_95 rfl ?_
      rw [offA, if_neg (fun z => absurd ((lg_cmp_gt _ _).mpr z) (i_nlt.mpr (i_nlt.mp (fun y => absurd zc57 (i_nle.mpr y)))))] at hq
      exact hq
    · skip
      refine a_aload_n (i := 0) q7_60 rfl rfl ?_
      refine a_getfield q7_61 rfl rfl ?_
      refine a_iload_n (i := 3) q7_64 rfl rfl ?_
      refine a_aload_n (i := 0) q7_65 rfl rfl ?_
      refine a_getfield q7_66 rfl rfl ?_
      refine a_iload_n (i := 3) q7_69 rfl rfl ?_
      refine a_iconst (v := 1) q7_70 (by decide) ?_
      refine a_isub q7_71 ?_
      refine AW.ti (nI_pred a) ?_
      refine a_lald' q7_72 rfl rfl (show a < 5 by omega) (by decide) ?_
      refine a_last' q7_73 rfl (j := a + 1) rfl (by omega) (by decide) (h' := hp I A (va_up L 14 (vp_updL (L 14) (a + 1) (L 14 a))) O) rfl ?_
      refine a_iinc (v := nI a) (lv' := [(0, _), (1, _), (3, _)]) q7_74 rfl rfl (pk_m1 a) rfl ?_
      refine a_goto (tgt := 34) q7_77 (by decide) ?_
      exact ih (L := va_up L 14 (vp_updL (L 14) (a + 1) (L 14 a))) (by omega) (Int32.lt_of_le_of_lt (nI_le (by omega) (by omega)) hk) (by rw [offA, if_pos ((lg_cmp_gt _ _).mp (i_nle.mp zc57))] at hq; exact lfh hq rfl)

theorem c_X0_size_2 {X : XS} {I : Nat → Int32} {A : Nat → Nat → Int32} {L : Nat → Nat → Int64} {O : AH} {Q : AO → AH → Prop}  (hq : Q (.inl (some (.int (I 10)))) (hp I A L O)) : Call X 1 [.ref 17] (hp I A L O) Q := by
  refine call_of (by decide) rfl rfl ?_
  refine a_aload_n (i := 0) q1_0 rfl rfl ?_
  refine a_getfield q1_1 rfl rfl ?_
  refine a_ireturn q1_4 (nr_int rfl _) ?_
  exact hq

theorem c_X0_hasRank_2 {X : XS} {I : Nat → Int32} {A : Nat → Nat → Int32} {L : Nat → Nat → Int64} {O : AH} {Q : AO → AH → Prop} {r : Int32} (hq : Q (.inl (some (.int (b2i (isRk (I 10) r))))) (hp I A L O)) : Call X 2 [.ref 17, .int r] (hp I A L O) Q := by
  refine call_of (by decide) rfl rfl ?_
  refine a_iload_n (i := 1) q2_0 rfl rfl ?_
  refine a_if_lt (tgt := 25) q2_1 (by decide) (fun zc1 => ?_) (fun zc1 => ?_)
  · skip
    refine a_iconst (v := 0) q2_25 (by decide) ?_
    refine a_ireturn q2_26 (nr_bool rfl (by decide)) ?_
    exact lfi hq (by have zl := lits; unfold b2i; split <;> (simp only [isRk, i_lt, i_le, i_eq] at * <;> omega))
  · skip
    refine a_iload_n (i := 1) q2_4 rfl rfl ?_
    refine a_aload_n (i := 0) q2_5 rfl rfl ?_
    refine a_getfield q2_6 rfl rfl ?_
    refine a_icmp_ge (tgt := 25) q2_9 (by decide) (fun zc9 => ?_) (fun zc9 => ?_)
    · skip
      refine a_iconst (v := 0) q2_25 (by decide) ?_
      refine a_ireturn q2_26 (nr_bool rfl (by decide)) ?_
      exact lfi hq (by have zl := lits; unfold b2i; split <;> (simp only [isRk, i_lt, i_le, i_eq] at * <;> omega))
    · skip
      refine a_iload_n (i := 1) q2_12 rfl rfl ?_
      refine a_aload_n (i := 0) q2_13 rfl rfl ?_
      refine a_getfield q2_14 rfl rfl ?_
      refine a_alen (v := 5) q2_17 rfl (by decide) rfl ?_
      refine a_icmp_ge (tgt := 25) q2_18 (by decide) (fun zc18 => ?_) (fun zc18 => ?_)
      · skip
        refine a_iconst (v := 0) q2_25 (by decide) ?_
        refine a_ireturn q2_26 (nr_bool rfl (by decide)) ?_
        exact lfi hq (by have zl := lits; unfold b2i; split <;> (simp only [isRk, i_lt, i_le, i_eq] at * <;> omega))
      · skip
        refine a_iconst (v := 1) q2_21 (by decide) ?_
        refine a_goto (tgt := 26) q2_22 (by decide) ?_
        refine a_ireturn q2_26 (nr_bool rfl (by decide)) ?_
        exact lfi hq (by have zl := lits; unfold b2i; split <;> (simp only [isRk, i_lt, i_le, i_eq] at * <;> omega))

theorem c_X0_placeAt_2 {X : XS} {I : Nat → Int32} {A : Nat → Nat → Int32} {L : Nat → Nat → Int64} {O : AH} {Q : AO → AH → Prop} {r : Int32} (hq : Q (.inl (some (.long (f_place (I 10) (L 17) r)))) (hp I A L O)) : Call X 3 [.ref 17, .int r] (hp I A L O) Q := by
  refine call_of (by decide) rfl rfl ?_
  refine a_aload_n (i := 0) q3_0 rfl rfl ?_
  refine a_iload_n (i := 1) q3_1 rfl rfl ?_
  refine a_cv1 q3_2 rfl rfl ⟨rfl, rfl⟩ rfl ?_
  refine c_X0_hasRank_2 ?_
  refine ck_r ?_
  refine a_if_eq (tgt := 17) q3_5 (by decide) (fun zc5 => ?_) (fun zc5 => ?_)
  · skip
    refine a_lconst (v := 0) q3_17 (by decide) ?_
    refine a_lreturn q3_18 rfl ?_
    exact lfl hq (by simp only [f_place]; rw [if_neg (b2i_z.mp zc5)])
  · skip
    refine a_aload_n (i := 0) q3_8 rfl rfl ?_
    refine a_getfield q3_9 rfl rfl ?_
    refine a_iload_n (i := 1) q3_12 rfl rfl ?_
    refine a_lald q3_13 rfl (vpi (N := 5) (i_nlt.mpr (b2i_nz.mp zc5).1) (i_nle.mpr (b2i_nz.mp zc5).2.2) rfl) ?_
    refine a_goto (tgt := 18) q3_14 (by decide) ?_
    refine a_lreturn q3_18 rfl ?_
    exact lfl hq (by simp only [f_place]; rw [if_pos (b2i_nz.mp zc5)])

theorem c_X0_chartAt_2 {X : XS} {I : Nat → Int32} {A : Nat → Nat → Int32} {L : Nat → Nat → Int64} {O : AH} {Q : AO → AH → Prop} {r : Int32} (hq : Q (.inl (some (.int (p_chart (f_place (I 10) (L 17) r))))) (hp I A L O)) : Call X 4 [.ref 17, .int r] (hp I A L O) Q := by
  refine call_of (by decide) rfl rfl ?_
  refine a_aload_n (i := 0) q4_0 rfl rfl ?_
  refine a_iload_n (i := 1) q4_1 rfl rfl ?_
  refine a_cv1 q4_2 rfl rfl ⟨rfl, rfl⟩ rfl ?_
  refine c_X0_placeAt_2 ?_
  refine ck_r ?_
  refine a_cs1 q4_5 rfl ⟨rfl, rfl⟩ rfl ?_
  refine c_X5_chartOf ?_
  refine ck_r ?_
  refine a_ireturn q4_8 (nr_int rfl _) ?_
  exact hq

theorem c_X0_clear_2 {X : XS} {I : Nat → Int32} {A : Nat → Nat → Int32} {L : Nat → Nat → Int64} {O : AH} {Q : AO → AH → Prop}  (hq : Q (.inl none) (hp (va_up I 10 0) A L O)) : Call X 5 [.ref 17] (hp I A L O) Q := by
  refine call_of (by decide) rfl rfl ?_
  refine a_aload_n (i := 0) q5_0 rfl rfl ?_
  refine a_iconst (v := 0) q5_1 (by decide) ?_
  refine a_putfield q5_2 rfl rfl rfl rfl ?_
  refine AW.hp (h' := hp (va_up I 10 0) A L O) rfl ?_
  refine a_return q5_5 rfl ?_
  exact hq

theorem c_X0_isOutOfReach_2 {X : XS} {I : Nat → Int32} {A : Nat → Nat → Int32} {L : Nat → Nat → Int64} {O : AH} {Q : AO → AH → Prop} {p : Int64} (hq : Q (.inl (some (.int (b2i (ouR (I 10) (L 17) p))))) (hp I A L O)) : Call X 6 [.ref 17, .long p] (hp I A L O) Q := by
  refine call_of (by decide) rfl rfl ?_
  refine a_aload_n (i := 0) q6_0 rfl rfl ?_
  refine a_getfield q6_1 rfl rfl ?_
  refine a_iconst (v := 5) q6_4 (by decide) ?_
  refine a_icmp_lt (tgt := 23) q6_5 (by decide) (fun zc5 => ?_) (fun zc5 => ?_)
  · skip
    refine a_iconst (v := 0) q6_23 (by decide) ?_
    refine a_ireturn q6_24 (nr_bool rfl (by decide)) ?_
    exact lfi hq (by have zl := lits; exact (b2i_f (fun z : ouR _ _ _ => absurd z.1 (i_nle.mpr zc5))).symm)
  · skip
    refine a_lload_n (i := 1) q6_8 rfl rfl ?_
    refine a_aload_n (i := 0) q6_9 rfl rfl ?_
    refine a_getfield q6_10 rfl rfl ?_
    refine a_iconst (v := 4) q6_13 (by decide) ?_
    refine a_lald' (j := 4) q6_14 rfl rfl (by decide) (by decide) ?_
    refine a_lcmp q6_15 ?_
    refine a_if_lt (tgt := 23) q6_16 (by decide) (fun zc16 => ?_) (fun zc16 => ?_)
    · skip
      refine a_iconst (v := 0) q6_23 (by decide) ?_
      refine a_ireturn q6_24 (nr_bool rfl (by decide)) ?_
      exact lfi hq (by have zl := lits; exact (b2i_f (fun z : ouR _ _ _ => absurd ((lg_cmp_ge _ _).mpr z.2) (i_nle.mpr zc16))).symm)
    · skip
      refine a_iconst (v := 1) q6_19 (by decide) ?_
      refine a_goto (tgt := 24) q6_20 (by decide) ?_
      refine a_ireturn q6_24 (nr_bool rfl (by decide)) ?_
      exact lfi hq (by have zl := lits; exact (b2i_t (p := ouR _ _ _) ⟨i_nlt.mp zc5, (lg_cmp_ge _ _).mp (i_nlt.mp zc16)⟩).symm)

theorem l_offer_2 (a : Nat) : ∀ {X : XS} {I : Nat → Int32} {A : Nat → Nat → Int32} {L : Nat → Nat → Int64} {O : AH} {Q : AO → AH → Prop} {p : Int64} (ha : a < 5) (hk : nI a < I 10) (hq : Q (.inl none) (hp I A (va_up L 17 (offA (L 17) p a)) O)), AW X 7 34 [(0, .ref 17), (1, .long p), (3, .int (nI a))] [] (hp I A L O) 0 0 Q := by
  induction a with
  | zero =>
    intro X I A L O Q p ha hk hq
    refine a_iload_n (i := 3) q7_34 rfl rfl ?_
    refine a_if_le (tgt := 80) q7_35 (by decide) (fun zc35 => ?_) (fun zc35 => absurd (show (nI 0 : Int32) ≤ 0 by decide) zc35)
    refine a_aload_n (i := 0) q7_80 rfl rfl ?_
    refine a_iload_n (i := 3) q7_81 rfl rfl ?_
    refine a_cv1 q7_82 rfl rfl ⟨rfl, rfl⟩ rfl ?_
    refine c_X0_hasRank_2 ?_
    refine ck_r ?_
    refine a_if_eq (tgt := 95) q7_85 (by decide) (fun zc85 => absurd zc85 (b2i_nz.mpr ⟨by decide, hk, by decide⟩)) (fun zc85 => ?_)
    refine a_aload_n (i := 0) q7_88 rfl rfl ?_
    refine a_getfield q7_89 rfl rfl ?_
    refine a_iload_n (i := 3) q7_92 rfl rfl ?_
    refine a_lload_n (i := 1) q7_93 rfl rfl ?_
    refine a_last' q7_94 rfl (j := 0) rfl (by decide) (by decide) (h' := hp I A (va_up L 17 (vp_updL (L 17) 0 p)) O) rfl ?_
    refine a_return q7_95 rfl ?_
    exact hq
  | succ a ih =>
    intro X I A L O Q p ha hk hq
    refine a_iload_n (i := 3) q7_34 rfl rfl ?_
    refine a_if_le (tgt := 80) q7_35 (by decide) (fun zc35 => absurd zc35 (nI_nle (Nat.succ_pos a) (by omega))) (fun zc35 => ?_)
    refine a_iload_n (i := 3) q7_38 rfl rfl ?_
    refine a_aload_n (i := 0) q7_39 rfl rfl ?_
    refine a_getfield q7_40 rfl rfl ?_
    refine a_alen (v := 5) q7_43 rfl (by decide) rfl ?_
    refine a_icmp_ge (tgt := 80) q7_44 (by decide) (fun zc44 => absurd zc44 (nI_ge (b := 5) (show a + 1 < 5 by omega) (by decide))) (fun zc44 => ?_)
    refine a_aload_n (i := 0) q7_47 rfl rfl ?_
    refine a_getfield q7_48 rfl rfl ?_
    refine a_iload_n (i := 3) q7_51 rfl rfl ?_
    refine a_iconst (v := 1) q7_52 (by decide) ?_
    refine a_isub q7_53 ?_
    refine AW.ti (nI_pred a) ?_
    refine a_lald' q7_54 rfl rfl (show a < 5 by omega) (by decide) ?_
    refine a_lload_n (i := 1) q7_55 rfl rfl ?_
    refine a_lcmp q7_56 ?_
    refine a_if_le (tgt := 80) q7_57 (by decide) (fun zc57 => ?_) (fun zc57 => ?_)
    · skip
      refine a_aload_n (i := 0) q7_80 rfl rfl ?_
      refine a_iload_n (i := 3) q7_81 rfl rfl ?_
      refine a_cv1 q7_82 rfl rfl ⟨rfl, rfl⟩ rfl ?_
      refine c_X0_hasRank_2 ?_
      refine ck_r ?_
      refine a_if_eq (tgt := 95) q7_85 (by decide) (fun zc85 => absurd zc85 (b2i_nz.mpr ⟨nI_pos' (by omega), hk, nI_lt (by omega) (by decide)⟩)) (fun zc85 => ?_)
      refine a_aload_n (i := 0) q7_88 rfl rfl ?_
      refine a_getfield q7_89 rfl rfl ?_
      refine a_iload_n (i := 3) q7_92 rfl rfl ?_
      refine a_lload_n (i := 1) q7_93 rfl rfl ?_
      refine a_last' q7_94 rfl (j := a + 1) rfl (by omega) (by decide) (h' := hp I A (va_up L 17 (vp_updL (L 17) (a + 1) p)) O) rfl ?_
      refine a_return q7_95 rfl ?_
      rw [offA, if_neg (fun z => absurd ((lg_cmp_gt _ _).mpr z) (i_nlt.mpr (i_nlt.mp (fun y => absurd zc57 (i_nle.mpr y)))))] at hq
      exact hq
    · skip
      refine a_aload_n (i := 0) q7_60 rfl rfl ?_
      refine a_getfield q7_61 rfl rfl ?_
      refine a_iload_n (i := 3) q7_64 rfl rfl ?_
      refine a_aload_n (i := 0) q7_65 rfl rfl ?_
      refine a_getfield q7_66 rfl rfl ?_
      refine a_iload_n (i := 3) q7_69 rfl rfl ?_
      refine a_iconst (v := 1) q7_70 (by decide) ?_
      refine a_isub q7_71 ?_
      refine AW.ti (nI_pred a) ?_
      refine a_lald' q7_72 rfl rfl (show a < 5 by omega) (by decide) ?_
      refine a_last' q7_73 rfl (j := a + 1) rfl (by omega) (by decide) (h' := hp I A (va_up L 17 (vp_updL (L 17) (a + 1) (L 17 a))) O) rfl ?_
      refine a_iinc (v := nI a) (lv' := [(0, _), (1, _), (3, _)]) q7_74 rfl rfl (pk_m1 a) rfl ?_
      refine a_goto (tgt := 34) q7_77 (by decide) ?_
      exact ih (L := va_up L 17 (vp_updL (L 17) (a + 1) (L 17 a))) (by omega) (Int32.lt_of_le_of_lt (nI_le (by omega) (by omega)) hk) (by rw [offA, if_pos ((lg_cmp_gt _ _).mp (i_nle.mp zc57))] at hq; exact lfh hq rfl)

theorem c_X0_offer_1 {X : XS} {I : Nat → Int32} {A : Nat → Nat → Int32} {L : Nat → Nat → Int64} {O : AH} {Q : AO → AH → Prop} {p : Int64} {k : Nat} (hk : I 7 = nI k) (hk6 : k ≤ 5) (h1 : ouR (I 7) (L 14) p → Q (.inl none) (hp I A L O)) (h2 : ¬ ouR (I 7) (L 14) p → k < 5 → Q (.inl none) (hp (va_up I 7 (nI (k + 1))) A (va_up L 14 (offA (L 14) p k)) O)) (h3 : ¬ ouR (I 7) (L 14) p → k = 5 → Q (.inl none) (hp I A (va_up L 14 (offA (L 14) p 4)) O)) : Call X 7 [.ref 14, .long p] (hp I A L O) Q := by
  refine call_of (by decide) rfl rfl ?_
  refine a_aload_n (i := 0) q7_0 rfl rfl ?_
  refine a_lload_n (i := 1) q7_1 rfl rfl ?_
  refine a_cv1 q7_2 rfl rfl ⟨rfl, rfl⟩ rfl ?_
  refine c_X0_isOutOfReach_1 ?_
  refine ck_r ?_
  refine a_if_eq (tgt := 9) q7_5 (by decide) (fun zc5 => ?_) (fun zc5 => ?_)
  · skip
    refine a_aload_n (i := 0) q7_9 rfl rfl ?_
    refine a_getfield q7_10 rfl rfl ?_
    refine a_iconst (v := 5) q7_13 (by decide) ?_
    refine a_icmp_ge (tgt := 27) q7_14 (by decide) (fun zc14 => ?_) (fun zc14 => ?_)
    · skip
      refine a_aload_n (i := 0) q7_27 rfl rfl ?_
      refine a_getfield q7_28 rfl rfl ?_
      refine a_iconst (v := 1) q7_31 (by decide) ?_
      refine a_isub q7_32 ?_
      refine AW.ti (show I 7 - 1 = nI 4 by rw [hk, show k = 5 by have := (nI_leI (a := 5) (b := k) (by decide) (by omega)).mp (by rw [← hk]; exact zc14); omega]; rfl) ?_
      refine a_istore_n (i := 3) (lv' := [(0, _), (1, _), (3, _)]) q7_33 rfl rfl rfl ?_
      have hk5 : k = 5 := by
        have := (nI_leI (a := 5) (b := k) (by decide) (by omega)).mp (by rw [← hk]; exact zc14)
        omega
      subst hk5
      exact l_offer_1 4 (by decide) (by rw [hk]; decide) (h3 (b2i_z.mp zc5) rfl)
    · skip
      refine a_aload_n (i := 0) q7_17 rfl rfl ?_
      refine a_dup q7_18 rfl ?_
      refine a_getfield q7_19 rfl rfl ?_
      refine a_iconst (v := 1) q7_22 (by decide) ?_
      refine a_iadd q7_23 ?_
      refine AW.ti (show I 7 + 1 = nI (k + 1) by rw [hk]; exact nI_1 k) ?_
      refine a_putfield q7_24 rfl rfl rfl rfl ?_
      refine AW.hp (h' := hp (va_up I 7 (nI (k + 1))) A L O) rfl ?_
      refine a_aload_n (i := 0) q7_27 rfl rfl ?_
      refine a_getfield q7_28 rfl rfl ?_
      refine a_iconst (v := 1) q7_31 (by decide) ?_
      refine a_isub q7_32 ?_
      refine AW.ti (nI_pred k) ?_
      refine a_istore_n (i := 3) (lv' := [(0, _), (1, _), (3, _)]) q7_33 rfl rfl rfl ?_
      have hk5 : k < 5 := by
        have h9 : ¬ nI 5 ≤ nI k := by rw [← hk]; exact zc14
        exact Nat.lt_of_not_le (fun z => h9 ((nI_leI (by decide) (by omega)).mpr z))
      exact l_offer_1 (I := va_up I 7 (nI (k + 1))) k hk5 (show nI k < va_up I 7 (nI (k + 1)) 7 from nI_lt (Nat.lt_succ_self k) (by omega)) (h2 (b2i_z.mp zc5) hk5)
  · skip
    refine a_return q7_8 rfl ?_
    exact h1 (b2i_nz.mp zc5)

theorem c_X0_offer_2 {X : XS} {I : Nat → Int32} {A : Nat → Nat → Int32} {L : Nat → Nat → Int64} {O : AH} {Q : AO → AH → Prop} {p : Int64} {k : Nat} (hk : I 10 = nI k) (hk6 : k ≤ 5) (h1 : ouR (I 10) (L 17) p → Q (.inl none) (hp I A L O)) (h2 : ¬ ouR (I 10) (L 17) p → k < 5 → Q (.inl none) (hp (va_up I 10 (nI (k + 1))) A (va_up L 17 (offA (L 17) p k)) O)) (h3 : ¬ ouR (I 10) (L 17) p → k = 5 → Q (.inl none) (hp I A (va_up L 17 (offA (L 17) p 4)) O)) : Call X 7 [.ref 17, .long p] (hp I A L O) Q := by
  refine call_of (by decide) rfl rfl ?_
  refine a_aload_n (i := 0) q7_0 rfl rfl ?_
  refine a_lload_n (i := 1) q7_1 rfl rfl ?_
  refine a_cv1 q7_2 rfl rfl ⟨rfl, rfl⟩ rfl ?_
  refine c_X0_isOutOfReach_2 ?_
  refine ck_r ?_
  refine a_if_eq (tgt := 9) q7_5 (by decide) (fun zc5 => ?_) (fun zc5 => ?_)
  · skip
    refine a_aload_n (i := 0) q7_9 rfl rfl ?_
    refine a_getfield q7_10 rfl rfl ?_
    refine a_iconst (v := 5) q7_13 (by decide) ?_
    refine a_icmp_ge (tgt := 27) q7_14 (by decide) (fun zc14 => ?_) (fun zc14 => ?_)
    · skip
      refine a_aload_n (i := 0) q7_27 rfl rfl ?_
      refine a_getfield q7_28 rfl rfl ?_
      refine a_iconst (v := 1) q7_31 (by decide) ?_
      refine a_isub q7_32 ?_
      refine AW.ti (show I 10 - 1 = nI 4 by rw [hk, show k = 5 by have := (nI_leI (a := 5) (b := k) (by decide) (by omega)).mp (by rw [← hk]; exact zc14); omega]; rfl) ?_
      refine a_istore_n (i := 3) (lv' := [(0, _), (1, _), (3, _)]) q7_33 rfl rfl rfl ?_
      have hk5 : k = 5 := by
        have := (nI_leI (a := 5) (b := k) (by decide) (by omega)).mp (by rw [← hk]; exact zc14)
        omega
      subst hk5
      exact l_offer_2 4 (by decide) (by rw [hk]; decide) (h3 (b2i_z.mp zc5) rfl)
    · skip
      refine a_aload_n (i := 0) q7_17 rfl rfl ?_
      refine a_dup q7_18 rfl ?_
      refine a_getfield q7_19 rfl rfl ?_
      refine a_iconst (v := 1) q7_22 (by decide) ?_
      refine a_iadd q7_23 ?_
      refine AW.ti (show I 10 + 1 = nI (k + 1) by rw [hk]; exact nI_1 k) ?_
      refine a_putfield q7_24 rfl rfl rfl rfl ?_
      refine AW.hp (h' := hp (va_up I 10 (nI (k + 1))) A L O) rfl ?_
      refine a_aload_n (i := 0) q7_27 rfl rfl ?_
      refine a_getfield q7_28 rfl rfl ?_
      refine a_iconst (v := 1) q7_31 (by decide) ?_
      refine a_isub q7_32 ?_
      refine AW.ti (nI_pred k) ?_
      refine a_istore_n (i := 3) (lv' := [(0, _), (1, _), (3, _)]) q7_33 rfl rfl rfl ?_
      have hk5 : k < 5 := by
        have h9 : ¬ nI 5 ≤ nI k := by rw [← hk]; exact zc14
        exact Nat.lt_of_not_le (fun z => h9 ((nI_leI (by decide) (by omega)).mpr z))
      exact l_offer_2 (I := va_up I 10 (nI (k + 1))) k hk5 (show nI k < va_up I 10 (nI (k + 1)) 10 from nI_lt (Nat.lt_succ_self k) (by omega)) (h2 (b2i_z.mp zc5) hk5)
  · skip
    refine a_return q7_8 rfl ?_
    exact h1 (b2i_nz.mp zc5)
