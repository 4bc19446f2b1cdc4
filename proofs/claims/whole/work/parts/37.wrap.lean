/-! the law's wrappers -/
theorem set35 {I : Nat → Int32} {A : Nat → Nat → Int32} {L : Nat → Nat → Int64} {O : Nat → UInt64} {x : Nat → Int64} : (hp I A L O).set 35 (.inr (1, 1, .inr (.inl x))) = hp I A (va_up L 35 x) O := rfl
theorem a_dast' {X : XS} {mi pc : Nat} {lv : List (Nat × Value)} {rest : List Value} {h h' : AH} {bc bs : Nat} {Q : AO → AH → Prop} {o : Nat} {f : Nat → UInt64} {x : UInt64} (d : decode (mB mi) pc = .ok (.dastore, 1)) (ho : h[o]? = some (.inr (2, 1, .inr (.inr (.inr (.inl f)))))) (hh : h.set o (.inr (2, 1, .inr (.inr (.inr (.inl (vf_upd f 0 x)))))) = h') (k : AW X mi (pc + 1) lv rest h' bc bs Q) : AW X mi pc lv (.double x :: .int 0 :: .ref o :: rest) h bc bs Q := by
  refine a_dast d ho (nI_vp (n := 1) (j := 0) (by decide) (by decide)) ?_
  rw [show (0 : Int32).toNatClampNeg = 0 from by decide, hh]; exact k
theorem c_L_addRow {X : XS} {I : Nat → Int32} {A : Nat → Nat → Int32} {L : Nat → Nat → Int64} {O : Nat → UInt64} {Q : AO → AH → Prop} {a b c d e f : Int32} {n : Nat} (hn : I 2 = nI n) (hn40 : n ≤ 40) (h1 : ¬ (isVal a ∧ isVal b ∧ isVal c ∧ isVal d ∧ isVal e ∧ isVal f) → Q (.inl (some (.int 1))) (hp I A L O)) (h2 : (isVal a ∧ isVal b ∧ isVal c ∧ isVal d ∧ isVal e ∧ isVal f) → 40 ≤ n → Q (.inl (some (.int 2))) (hp I A L O)) (h3 : (isVal a ∧ isVal b ∧ isVal c ∧ isVal d ∧ isVal e ∧ isVal f) → n < 40 → Q (.inl (some (.int 0))) (hp (va_up (va_up I 2 (nI (n + 1))) 6 1) (stA (apA A n a b c d e f) (n + 1) 6) (va_up (stL (apA A n a b c d e f) L (n + 1) 6) 35 (vp_updL ((stL (apA A n a b c d e f) L (n + 1) 6) 35) 0 ((nI (n + 1))).toInt64)) O)) : Call X 203 [.ref 0, .int a, .int b, .int c, .int d, .int e, .int f, .ref 35] (hp I A L O) Q := by
  refine call_ofH (by decide) (by decide) rfl ?_
  refine a_aload q203_0 rfl ?_
  refine a_iconst (v := 0) q203_2 (by decide) ?_
  refine a_aload_n (i := 0) q203_3 rfl rfl ?_
  refine a_iload_n (i := 1) q203_4 rfl rfl ?_
  refine a_iload_n (i := 2) q203_5 rfl rfl ?_
  refine a_iload_n (i := 3) q203_6 rfl rfl ?_
  refine a_iload q203_7 rfl ?_
  refine a_iload q203_9 rfl ?_
  refine a_iload q203_11 rfl ?_
  refine a_callVH (as := [_, _, _, _, _, _]) q203_13 rfl rfl rfl ⟨rfl, rfl⟩ rfl ?_
  refine c_X9_addRow (hn := hn) (hn40 := hn40) (h1 := fun y0 => ?_) (h2 := fun y0 y1 => ?_) (h3 := fun y0 y1 => ?_)
  · skip
    refine ⟨(0, 21, 8, 2), by decide, rfl, ?_⟩
    refine a_iconst (v := 1) q203_23 (by decide) ?_
    refine a_ireturn q203_24 (nr_int rfl _) ?_
    exact h1 y0
  · skip
    refine ⟨(1, 25, 8, 2), by decide, rfl, ?_⟩
    refine a_iconst (v := 2) q203_27 (by decide) ?_
    refine a_ireturn q203_28 (nr_int rfl _) ?_
    exact h2 y0 y1
  · skip
    refine hk_r ?_
    refine a_i2l q203_16 ?_
    refine a_last' (j := 0) q203_17 rfl rfl (by decide) (by decide) (h' := hp (va_up (va_up I 2 (nI (n + 1))) 6 1) (stA (apA A n a b c d e f) (n + 1) 6) (va_up (stL (apA A n a b c d e f) L (n + 1) 6) 35 (vp_updL ((stL (apA A n a b c d e f) L (n + 1) 6) 35) 0 ((nI (n + 1))).toInt64)) O) set35 ?_
    refine a_goto (tgt := 29) q203_18 (by decide) ?_
    refine a_iconst (v := 0) q203_29 (by decide) ?_
    refine a_ireturn q203_30 (nr_int rfl _) ?_
    exact h3 y0 y1

theorem c_L_dropRow {X : XS} {I : Nat → Int32} {A : Nat → Nat → Int32} {L : Nat → Nat → Int64} {O : Nat → UInt64} {Q : AO → AH → Prop} {r : Int32} {n : Nat} (hn : I 2 = nI n) (hn40 : n ≤ 40) (h1 : ¬ isRow I r → Q (.inl (some (.int 1))) (hp I A L O)) (h2 : ∀ j m, r = nI j → n = m + 1 → j ≤ m → Q (.inl (some (.int 0))) (hp (va_up (va_up I 2 (nI m)) 6 1) (stA (remT A j (m - j) 6) m 6) (va_up (stL (remT A j (m - j) 6) L m 6) 35 (vp_updL ((stL (remT A j (m - j) 6) L m 6) 35) 0 ((nI m)).toInt64)) O)) : Call X 204 [.ref 0, .int r, .ref 35] (hp I A L O) Q := by
  refine call_ofH (by decide) (by decide) rfl ?_
  refine a_aload_n (i := 2) q204_0 rfl rfl ?_
  refine a_iconst (v := 0) q204_1 (by decide) ?_
  refine a_aload_n (i := 0) q204_2 rfl rfl ?_
  refine a_iload_n (i := 1) q204_3 rfl rfl ?_
  refine a_callVH (as := [_]) q204_4 rfl rfl rfl ⟨rfl, rfl⟩ rfl ?_
  refine c_X9_dropRow (hn := hn) (hn40 := hn40) (h1 := fun y0 => ?_) (h2 := fun j m y2 y3 y4 => ?_)
  · skip
    refine ⟨(2, 12, 3, 1), by decide, rfl, ?_⟩
    refine a_iconst (v := 1) q204_13 (by decide) ?_
    refine a_ireturn q204_14 (nr_int rfl _) ?_
    exact h1 y0
  · skip
    refine hk_r ?_
    refine a_i2l q204_7 ?_
    refine a_last' (j := 0) q204_8 rfl rfl (by decide) (by decide) (h' := hp (va_up (va_up I 2 (nI m)) 6 1) (stA (remT A j (m - j) 6) m 6) (va_up (stL (remT A j (m - j) 6) L m 6) 35 (vp_updL ((stL (remT A j (m - j) 6) L m 6) 35) 0 ((nI m)).toInt64)) O) set35 ?_
    refine a_goto (tgt := 15) q204_9 (by decide) ?_
    refine a_iconst (v := 0) q204_15 (by decide) ?_
    refine a_ireturn q204_16 (nr_int rfl _) ?_
    exact h2 j m y2 y3 y4

theorem c_L_put {X : XS} {I : Nat → Int32} {A : Nat → Nat → Int32} {L : Nat → Nat → Int64} {O : Nat → UInt64} {Q : AO → AH → Prop} {r c v : Int32} {n : Nat} (hn : I 2 = nI n) (hn40 : n ≤ 40) (h1 : ¬ (isRow I r ∧ isCol c) → Q (.inl (some (.int 1))) (hp I A L O)) (h2 : isRow I r ∧ isCol c → ¬ isVal v → Q (.inl (some (.int 2))) (hp I A L O)) (h3 : ∀ j k, j < n → k < 6 → r = nI j → c = nI k → isVal v → Q (.inl (some (.int 0))) (hp (va_up I 6 1) (studyA (st1 A k j v) k n) (va_up (studyL (st1 A k j v) L k n) 35 (vp_updL ((studyL (st1 A k j v) L k n) 35) 0 ((cv A k j)).toInt64)) O)) : Call X 205 [.ref 0, .int r, .int c, .int v, .ref 35] (hp I A L O) Q := by
  refine call_ofH (by decide) (by decide) rfl ?_
  refine a_aload q205_0 rfl ?_
  refine a_iconst (v := 0) q205_2 (by decide) ?_
  refine a_aload_n (i := 0) q205_3 rfl rfl ?_
  refine a_iload_n (i := 1) q205_4 rfl rfl ?_
  refine a_iload_n (i := 2) q205_5 rfl rfl ?_
  refine a_iload_n (i := 3) q205_6 rfl rfl ?_
  refine a_callVH (as := [_, _, _]) q205_7 rfl rfl rfl ⟨rfl, rfl⟩ rfl ?_
  refine c_X9_put (hn := hn) (hn40 := hn40) (h1 := fun y0 => ?_) (h2 := fun y0 y1 => ?_) (h3 := fun j k y2 y3 y4 y5 y6 => ?_)
  · skip
    refine ⟨(2, 15, 5, 2), by decide, rfl, ?_⟩
    refine a_iconst (v := 1) q205_17 (by decide) ?_
    refine a_ireturn q205_18 (nr_int rfl _) ?_
    exact h1 y0
  · skip
    refine ⟨(0, 19, 5, 2), by decide, rfl, ?_⟩
    refine a_iconst (v := 2) q205_21 (by decide) ?_
    refine a_ireturn q205_22 (nr_int rfl _) ?_
    exact h2 y0 y1
  · skip
    refine hk_r ?_
    refine a_i2l q205_10 ?_
    refine a_last' (j := 0) q205_11 rfl rfl (by decide) (by decide) (h' := hp (va_up I 6 1) (studyA (st1 A k j v) k n) (va_up (studyL (st1 A k j v) L k n) 35 (vp_updL ((studyL (st1 A k j v) L k n) 35) 0 ((cv A k j)).toInt64)) O) set35 ?_
    refine a_goto (tgt := 23) q205_12 (by decide) ?_
    refine a_iconst (v := 0) q205_23 (by decide) ?_
    refine a_ireturn q205_24 (nr_int rfl _) ?_
    exact h3 j k y2 y3 y4 y5 y6

theorem c_L_different {X : XS} {I : Nat → Int32} {A : Nat → Nat → Int32} {L : Nat → Nat → Int64} {O : Nat → UInt64} {Q : AO → AH → Prop} {c : Int32} (h0 : isCol c → Q (.inl (some (.int 0))) (hp I A (va_up L 35 (vp_updL (L 35) 0 ((f_differentIn A c)).toInt64)) O)) (h1 : ¬ isCol c → Q (.inl (some (.int 1))) (hp I A L O)) : Call X 206 [.ref 0, .int c, .ref 35] (hp I A L O) Q := by
  refine call_ofH (by decide) (by decide) rfl ?_
  refine a_aload_n (i := 2) q206_0 rfl rfl ?_
  refine a_iconst (v := 0) q206_1 (by decide) ?_
  refine a_aload_n (i := 0) q206_2 rfl rfl ?_
  refine a_iload_n (i := 1) q206_3 rfl rfl ?_
  refine a_callVH (as := [_]) q206_4 rfl rfl rfl ⟨rfl, rfl⟩ rfl ?_
  refine c_X9_different  (h0 := fun y0 => ?_) (h1 := fun y0 => ?_)
  · skip
    refine hk_r ?_
    refine a_i2l q206_7 ?_
    refine a_last' (j := 0) q206_8 rfl rfl (by decide) (by decide) (h' := hp I A (va_up L 35 (vp_updL (L 35) 0 ((f_differentIn A c)).toInt64)) O) set35 ?_
    refine a_goto (tgt := 15) q206_9 (by decide) ?_
    refine a_iconst (v := 0) q206_15 (by decide) ?_
    refine a_ireturn q206_16 (nr_int rfl _) ?_
    exact h0 y0
  · skip
    refine ⟨(2, 12, 3, 1), by decide, rfl, ?_⟩
    refine a_iconst (v := 1) q206_13 (by decide) ?_
    refine a_ireturn q206_14 (nr_int rfl _) ?_
    exact h1 y0

theorem c_L_sumOf {X : XS} {I : Nat → Int32} {A : Nat → Nat → Int32} {L : Nat → Nat → Int64} {O : Nat → UInt64} {Q : AO → AH → Prop} {c : Int32} (h0 : isCol c → Q (.inl (some (.int 0))) (hp I A (va_up L 35 (vp_updL (L 35) 0 (f_sumIn L c))) O)) (h1 : ¬ isCol c → Q (.inl (some (.int 1))) (hp I A L O)) : Call X 207 [.ref 0, .int c, .ref 35] (hp I A L O) Q := by
  refine call_ofH (by decide) (by decide) rfl ?_
  refine a_aload_n (i := 2) q207_0 rfl rfl ?_
  refine a_iconst (v := 0) q207_1 (by decide) ?_
  refine a_aload_n (i := 0) q207_2 rfl rfl ?_
  refine a_iload_n (i := 1) q207_3 rfl rfl ?_
  refine a_callVH (as := [_]) q207_4 rfl rfl rfl ⟨rfl, rfl⟩ rfl ?_
  refine c_X9_sumOf  (h0 := fun y0 => ?_) (h1 := fun y0 => ?_)
  · skip
    refine hk_r ?_
    refine a_last' (j := 0) q207_7 rfl rfl (by decide) (by decide) (h' := hp I A (va_up L 35 (vp_updL (L 35) 0 (f_sumIn L c))) O) set35 ?_
    refine a_goto (tgt := 14) q207_8 (by decide) ?_
    refine a_iconst (v := 0) q207_14 (by decide) ?_
    refine a_ireturn q207_15 (nr_int rfl _) ?_
    exact h0 y0
  · skip
    refine ⟨(2, 11, 3, 1), by decide, rfl, ?_⟩
    refine a_iconst (v := 1) q207_12 (by decide) ?_
    refine a_ireturn q207_13 (nr_int rfl _) ?_
    exact h1 y0

theorem c_L_meanOf {X : XS} {I : Nat → Int32} {A : Nat → Nat → Int32} {L : Nat → Nat → Int64} {O : Nat → UInt64} {Q : AO → AH → Prop} {c : Int32} (hne : isCol c → ¬ f_countIn A c = 0 → vf_n64 (FP.ddiv (FP.l2d (f_sumIn L c)) (FP.i2d (f_countIn A c)))) (h1 : ¬ isCol c → Q (.inl (some (.int 1))) (hp I A L O)) (h2 : isCol c → f_countIn A c = 0 → Q (.inl (some (.int 2))) (hp I A L O)) (h0 : isCol c → ¬ f_countIn A c = 0 → Q (.inl (some (.int 0))) (hp I A L (vf_upd O 0 (FP.ddiv (FP.l2d (f_sumIn L c)) (FP.i2d (f_countIn A c)))))) : Call X 208 [.ref 0, .int c, .ref 36] (hp I A L O) Q := by
  refine call_ofH (by decide) (by decide) rfl ?_
  refine a_aload_n (i := 2) q208_0 rfl rfl ?_
  refine a_iconst (v := 0) q208_1 (by decide) ?_
  refine a_aload_n (i := 0) q208_2 rfl rfl ?_
  refine a_iload_n (i := 1) q208_3 rfl rfl ?_
  refine a_callVH (as := [_]) q208_4 rfl rfl rfl ⟨rfl, rfl⟩ rfl ?_
  refine c_X9_meanOf (hne := hne) (h1 := fun y0 => ?_) (h2 := fun y0 y1 => ?_) (h0 := fun y0 y1 => ?_)
  · skip
    refine ⟨(2, 11, 3, 1), by decide, rfl, ?_⟩
    refine a_iconst (v := 1) q208_12 (by decide) ?_
    refine a_ireturn q208_13 (nr_int rfl _) ?_
    exact h1 y0
  · skip
    refine ⟨(3, 14, 3, 1), by decide, rfl, ?_⟩
    refine a_iconst (v := 2) q208_15 (by decide) ?_
    refine a_ireturn q208_16 (nr_int rfl _) ?_
    exact h2 y0 y1
  · skip
    refine hk_r ?_
    refine a_dast' q208_7 rfl (h' := hp I A L (vf_upd O 0 (FP.ddiv (FP.l2d (f_sumIn L c)) (FP.i2d (f_countIn A c))))) rfl ?_
    refine a_goto (tgt := 17) q208_8 (by decide) ?_
    refine a_iconst (v := 0) q208_17 (by decide) ?_
    refine a_ireturn q208_18 (nr_int rfl _) ?_
    exact h0 y0 y1

theorem c_L_filled {X : XS} {I : Nat → Int32} {A : Nat → Nat → Int32} {L : Nat → Nat → Int64} {O : Nat → UInt64} {Q : AO → AH → Prop} {c : Int32} (hne : isCol c → ¬ I 2 = 0 → vf_n32 (FP.fdiv (FP.i2f (f_countIn A c)) (FP.i2f (I 2)))) (hne2 : isCol c → ¬ I 2 = 0 → vf_n64 (FP.f2d (FP.fdiv (FP.i2f (f_countIn A c)) (FP.i2f (I 2))))) (h1 : ¬ isCol c → Q (.inl (some (.int 1))) (hp I A L O)) (h2 : isCol c → I 2 = 0 → Q (.inl (some (.int 2))) (hp I A L O)) (h0 : isCol c → ¬ I 2 = 0 → Q (.inl (some (.int 0))) (hp I A L (vf_upd O 0 (FP.f2d (FP.fdiv (FP.i2f (f_countIn A c)) (FP.i2f (I 2))))))) : Call X 209 [.ref 0, .int c, .ref 36] (hp I A L O) Q := by
  refine call_ofH (by decide) (by decide) rfl ?_
  refine a_aload_n (i := 2) q209_0 rfl rfl ?_
  refine a_iconst (v := 0) q209_1 (by decide) ?_
  refine a_aload_n (i := 0) q209_2 rfl rfl ?_
  refine a_iload_n (i := 1) q209_3 rfl rfl ?_
  refine a_callVH (as := [_]) q209_4 rfl rfl rfl ⟨rfl, rfl⟩ rfl ?_
  refine c_X9_filled (hne := hne) (h1 := fun y0 => ?_) (h2 := fun y0 y1 => ?_) (h0 := fun y0 y1 => ?_)
  · skip
    refine ⟨(2, 12, 3, 1), by decide, rfl, ?_⟩
    refine a_iconst (v := 1) q209_13 (by decide) ?_
    refine a_ireturn q209_14 (nr_int rfl _) ?_
    exact h1 y0
  · skip
    refine ⟨(3, 15, 3, 1), by decide, rfl, ?_⟩
    refine a_iconst (v := 2) q209_16 (by decide) ?_
    refine a_ireturn q209_17 (nr_int rfl _) ?_
    exact h2 y0 y1
  · skip
    refine hk_r ?_
    refine a_f2d q209_7 (hne2 y0 y1) ?_
    refine a_dast' q209_8 rfl (h' := hp I A L (vf_upd O 0 (FP.f2d (FP.fdiv (FP.i2f (f_countIn A c)) (FP.i2f (I 2)))))) rfl ?_
    refine a_goto (tgt := 18) q209_9 (by decide) ?_
    refine a_iconst (v := 0) q209_18 (by decide) ?_
    refine a_ireturn q209_19 (nr_int rfl _) ?_
    exact h0 y0 y1

theorem c_L_kindOf {X : XS} {I : Nat → Int32} {A : Nat → Nat → Int32} {L : Nat → Nat → Int64} {O : Nat → UInt64} {Q : AO → AH → Prop} {c : Int32} (h0 : isCol c → Q (.inl (some (.int 0))) (hp I A (va_up L 35 (vp_updL (L 35) 0 ((f_kindAt A c)).toInt64)) O)) (h1 : ¬ isCol c → Q (.inl (some (.int 1))) (hp I A L O)) : Call X 210 [.ref 0, .int c, .ref 35] (hp I A L O) Q := by
  refine call_ofH (by decide) (by decide) rfl ?_
  refine a_aload_n (i := 2) q210_0 rfl rfl ?_
  refine a_iconst (v := 0) q210_1 (by decide) ?_
  refine a_aload_n (i := 0) q210_2 rfl rfl ?_
  refine a_iload_n (i := 1) q210_3 rfl rfl ?_
  refine a_callVH (as := [_]) q210_4 rfl rfl rfl ⟨rfl, rfl⟩ rfl ?_
  refine c_X9_kindOf  (h0 := fun y0 => ?_) (h1 := fun y0 => ?_)
  · skip
    refine hk_r ?_
    refine a_i2l q210_7 ?_
    refine a_last' (j := 0) q210_8 rfl rfl (by decide) (by decide) (h' := hp I A (va_up L 35 (vp_updL (L 35) 0 ((f_kindAt A c)).toInt64)) O) set35 ?_
    refine a_goto (tgt := 15) q210_9 (by decide) ?_
    refine a_iconst (v := 0) q210_15 (by decide) ?_
    refine a_ireturn q210_16 (nr_int rfl _) ?_
    exact h0 y0
  · skip
    refine ⟨(2, 12, 3, 1), by decide, rfl, ?_⟩
    refine a_iconst (v := 1) q210_13 (by decide) ?_
    refine a_ireturn q210_14 (nr_int rfl _) ?_
    exact h1 y0

theorem c_L_force {X : XS} {I : Nat → Int32} {A : Nat → Nat → Int32} {L : Nat → Nat → Int64} {O : Nat → UInt64} {Q : AO → AH → Prop} {c k : Int32} {n : Nat} (hn : I 2 = nI n) (hn40 : n ≤ 40) (h1 : ¬ isCol c → Q (.inl (some (.int 1))) (hp I A L O)) (h2 : isCol c → ¬ (k = 2 ∨ k = 3 ∨ k = 4) → Q (.inl (some (.int 2))) (hp I A L O)) (h3 : ∀ j, j < 6 → c = nI j → (k = 2 ∨ k = 3 ∨ k = 4) → Q (.inl (some (.int 0))) (hp (va_up I 6 1) (studyA (va_up A 3 (upd (A 3) j k)) j n) (va_up (studyL (va_up A 3 (upd (A 3) j k)) L j n) 35 (vp_updL ((studyL (va_up A 3 (upd (A 3) j k)) L j n) 35) 0 ((studyA (va_up A 3 (upd (A 3) j k)) j n 4 j)).toInt64)) O)) : Call X 211 [.ref 0, .int c, .int k, .ref 35] (hp I A L O) Q := by
  refine call_ofH (by decide) (by decide) rfl ?_
  refine a_aload_n (i := 3) q211_0 rfl rfl ?_
  refine a_iconst (v := 0) q211_1 (by decide) ?_
  refine a_aload_n (i := 0) q211_2 rfl rfl ?_
  refine a_iload_n (i := 1) q211_3 rfl rfl ?_
  refine a_iload_n (i := 2) q211_4 rfl rfl ?_
  refine a_callVH (as := [_, _]) q211_5 rfl rfl rfl ⟨rfl, rfl⟩ rfl ?_
  refine c_X9_force (hn := hn) (hn40 := hn40) (h1 := fun y0 => ?_) (h2 := fun y0 y1 => ?_) (h3 := fun j y1 y2 y3 => ?_)
  · skip
    refine ⟨(2, 13, 4, 2), by decide, rfl, ?_⟩
    refine a_iconst (v := 1) q211_15 (by decide) ?_
    refine a_ireturn q211_16 (nr_int rfl _) ?_
    exact h1 y0
  · skip
    refine ⟨(0, 17, 4, 2), by decide, rfl, ?_⟩
    refine a_iconst (v := 2) q211_19 (by decide) ?_
    refine a_ireturn q211_20 (nr_int rfl _) ?_
    exact h2 y0 y1
  · skip
    refine hk_r ?_
    refine a_i2l q211_8 ?_
    refine a_last' (j := 0) q211_9 rfl rfl (by decide) (by decide) (h' := hp (va_up I 6 1) (studyA (va_up A 3 (upd (A 3) j k)) j n) (va_up (studyL (va_up A 3 (upd (A 3) j k)) L j n) 35 (vp_updL ((studyL (va_up A 3 (upd (A 3) j k)) L j n) 35) 0 ((studyA (va_up A 3 (upd (A 3) j k)) j n 4 j)).toInt64)) O) set35 ?_
    refine a_goto (tgt := 21) q211_10 (by decide) ?_
    refine a_iconst (v := 0) q211_21 (by decide) ?_
    refine a_ireturn q211_22 (nr_int rfl _) ?_
    exact h3 j y1 y2 y3

theorem c_L_unforce {X : XS} {I : Nat → Int32} {A : Nat → Nat → Int32} {L : Nat → Nat → Int64} {O : Nat → UInt64} {Q : AO → AH → Prop} {c : Int32} {n : Nat} (hn : I 2 = nI n) (hn40 : n ≤ 40) (h1 : ¬ isCol c → Q (.inl (some (.int 1))) (hp I A L O)) (h2 : ∀ j, j < 6 → c = nI j → A 3 j = -1 → Q (.inl (some (.int 2))) (hp I A L O)) (h3 : ∀ j, j < 6 → c = nI j → ¬ A 3 j = -1 → Q (.inl (some (.int 0))) (hp (va_up I 6 1) (studyA (va_up A 3 (upd (A 3) j (-1))) j n) (va_up (studyL (va_up A 3 (upd (A 3) j (-1))) L j n) 35 (vp_updL ((studyL (va_up A 3 (upd (A 3) j (-1))) L j n) 35) 0 ((studyA (va_up A 3 (upd (A 3) j (-1))) j n 4 j)).toInt64)) O)) : Call X 212 [.ref 0, .int c, .ref 35] (hp I A L O) Q := by
  refine call_ofH (by decide) (by decide) rfl ?_
  refine a_aload_n (i := 2) q212_0 rfl rfl ?_
  refine a_iconst (v := 0) q212_1 (by decide) ?_
  refine a_aload_n (i := 0) q212_2 rfl rfl ?_
  refine a_iload_n (i := 1) q212_3 rfl rfl ?_
  refine a_callVH (as := [_]) q212_4 rfl rfl rfl ⟨rfl, rfl⟩ rfl ?_
  refine c_X9_unforce (hn := hn) (hn40 := hn40) (h1 := fun y0 => ?_) (h2 := fun j y1 y2 y3 => ?_) (h3 := fun j y1 y2 y3 => ?_)
  · skip
    refine ⟨(2, 12, 3, 1), by decide, rfl, ?_⟩
    refine a_iconst (v := 1) q212_13 (by decide) ?_
    refine a_ireturn q212_14 (nr_int rfl _) ?_
    exact h1 y0
  · skip
    refine ⟨(1, 15, 3, 1), by decide, rfl, ?_⟩
    refine a_iconst (v := 2) q212_16 (by decide) ?_
    refine a_ireturn q212_17 (nr_int rfl _) ?_
    exact h2 j y1 y2 y3
  · skip
    refine hk_r ?_
    refine a_i2l q212_7 ?_
    refine a_last' (j := 0) q212_8 rfl rfl (by decide) (by decide) (h' := hp (va_up I 6 1) (studyA (va_up A 3 (upd (A 3) j (-1))) j n) (va_up (studyL (va_up A 3 (upd (A 3) j (-1))) L j n) 35 (vp_updL ((studyL (va_up A 3 (upd (A 3) j (-1))) L j n) 35) 0 ((studyA (va_up A 3 (upd (A 3) j (-1))) j n 4 j)).toInt64)) O) set35 ?_
    refine a_goto (tgt := 18) q212_9 (by decide) ?_
    refine a_iconst (v := 0) q212_18 (by decide) ?_
    refine a_ireturn q212_19 (nr_int rfl _) ?_
    exact h3 j y1 y2 y3

theorem c_L_wish {X : XS} {I : Nat → Int32} {A : Nat → Nat → Int32} {L : Nat → Nat → Int64} {O : Nat → UInt64} {Q : AO → AH → Prop} {c z : Int32} (h1 : ¬ isCol c → Q (.inl (some (.int 1))) (hp I A L O)) (h0 : isCol c → Q (.inl (some (.int 0))) (hp (va_up (va_up I 6 1) 3 (g_wish (I 3) c z)) A (va_up L 35 (vp_updL (L 35) 0 ((g_bc (g_wish (I 3) c z))).toInt64)) O)) : Call X 213 [.ref 0, .int c, .int z, .ref 35] (hp I A L O) Q := by
  refine call_ofH (by decide) (by decide) rfl ?_
  refine a_aload_n (i := 3) q213_0 rfl rfl ?_
  refine a_iconst (v := 0) q213_1 (by decide) ?_
  refine a_aload_n (i := 0) q213_2 rfl rfl ?_
  refine a_iload_n (i := 1) q213_3 rfl rfl ?_
  refine a_iload_n (i := 2) q213_4 rfl rfl ?_
  refine a_callVH (as := [_, _]) q213_5 rfl rfl rfl ⟨rfl, rfl⟩ rfl ?_
  refine c_X9_wish  (h1 := fun y0 => ?_) (h0 := fun y0 => ?_)
  · skip
    refine ⟨(2, 13, 4, 2), by decide, rfl, ?_⟩
    refine a_iconst (v := 1) q213_15 (by decide) ?_
    refine a_ireturn q213_16 (nr_int rfl _) ?_
    exact h1 y0
  · skip
    refine hk_r ?_
    refine a_i2l q213_8 ?_
    refine a_last' (j := 0) q213_9 rfl rfl (by decide) (by decide) (h' := hp (va_up (va_up I 6 1) 3 (g_wish (I 3) c z)) A (va_up L 35 (vp_updL (L 35) 0 ((g_bc (g_wish (I 3) c z))).toInt64)) O) set35 ?_
    refine a_goto (tgt := 17) q213_10 (by decide) ?_
    refine a_iconst (v := 0) q213_17 (by decide) ?_
    refine a_ireturn q213_18 (nr_int rfl _) ?_
    exact h0 y0

theorem c_L_wishMark {X : XS} {I : Nat → Int32} {A : Nat → Nat → Int32} {L : Nat → Nat → Int64} {O : Nat → UInt64} {Q : AO → AH → Prop} {m : Int32} (hm : narrow .char (.int m) = .int m) (hf : fits .char (.int m) = true) (hn4 : narrow .char (.int (I 4)) = .int (I 4)) (h1 : ¬ isMk m → ¬ m = 45 → Q (.inl (some (.int 1))) (hp I A L O)) (h0 : (isMk m ∨ m = 45) → Q (.inl (some (.int 0))) (hp (va_up (va_up I 6 1) 4 m) A (va_up L 35 (vp_updL (L 35) 0 ((I 4)).toInt64)) O)) : Call X 214 [.ref 0, .int m, .ref 35] (hp I A L O) Q := by
  refine call_ofH (by decide) (by decide) rfl ?_
  refine a_aload_n (i := 2) q214_0 rfl rfl ?_
  refine a_iconst (v := 0) q214_1 (by decide) ?_
  refine a_aload_n (i := 0) q214_2 rfl rfl ?_
  refine a_iload_n (i := 1) q214_3 rfl rfl ?_
  refine a_callVH (as := [_]) q214_4 rfl rfl rfl ⟨rfl, rfl⟩ rfl ?_
  refine c_X9_wishMark (hm := hm) (hf := hf) (hn4 := hn4) (h1 := fun y0 y1 => ?_) (h0 := fun y0 => ?_)
  · skip
    refine ⟨(0, 12, 3, 1), by decide, rfl, ?_⟩
    refine a_iconst (v := 1) q214_13 (by decide) ?_
    refine a_ireturn q214_14 (nr_int rfl _) ?_
    exact h1 y0 y1
  · skip
    refine hk_r ?_
    refine a_i2l q214_7 ?_
    refine a_last' (j := 0) q214_8 rfl rfl (by decide) (by decide) (h' := hp (va_up (va_up I 6 1) 4 m) A (va_up L 35 (vp_updL (L 35) 0 ((I 4)).toInt64)) O) set35 ?_
    refine a_goto (tgt := 15) q214_9 (by decide) ?_
    refine a_iconst (v := 0) q214_15 (by decide) ?_
    refine a_ireturn q214_16 (nr_int rfl _) ?_
    exact h0 y0

theorem c_L_forbid {X : XS} {I : Nat → Int32} {A : Nat → Nat → Int32} {L : Nat → Nat → Int64} {O : Nat → UInt64} {Q : AO → AH → Prop} {c k : Int32} (h1 : ¬ (isCol c ∧ isChan k) → Q (.inl (some (.int 1))) (hp I A L O)) (h2 : isCol c → isChan k → f_forb I c k → Q (.inl (some (.int 2))) (hp I A L O)) (h3 : isCol c → isChan k → ¬ f_forb I c k → Q (.inl (some (.int 0))) (hp (va_up (va_up I 6 1) 5 (g_turn (I 5) c k)) A (va_up L 35 (vp_updL (L 35) 0 ((g_bc (g_turn (I 5) c k))).toInt64)) O)) : Call X 215 [.ref 0, .int c, .int k, .ref 35] (hp I A L O) Q := by
  refine call_ofH (by decide) (by decide) rfl ?_
  refine a_aload_n (i := 3) q215_0 rfl rfl ?_
  refine a_iconst (v := 0) q215_1 (by decide) ?_
  refine a_aload_n (i := 0) q215_2 rfl rfl ?_
  refine a_iload_n (i := 1) q215_3 rfl rfl ?_
  refine a_iload_n (i := 2) q215_4 rfl rfl ?_
  refine a_callVH (as := [_, _]) q215_5 rfl rfl rfl ⟨rfl, rfl⟩ rfl ?_
  refine c_X9_forbid  (h1 := fun y0 => ?_) (h2 := fun y0 y1 y2 => ?_) (h3 := fun y0 y1 y2 => ?_)
  · skip
    refine ⟨(2, 13, 4, 2), by decide, rfl, ?_⟩
    refine a_iconst (v := 1) q215_15 (by decide) ?_
    refine a_ireturn q215_16 (nr_int rfl _) ?_
    exact h1 y0
  · skip
    refine ⟨(1, 17, 4, 2), by decide, rfl, ?_⟩
    refine a_iconst (v := 2) q215_19 (by decide) ?_
    refine a_ireturn q215_20 (nr_int rfl _) ?_
    exact h2 y0 y1 y2
  · skip
    refine hk_r ?_
    refine a_i2l q215_8 ?_
    refine a_last' (j := 0) q215_9 rfl rfl (by decide) (by decide) (h' := hp (va_up (va_up I 6 1) 5 (g_turn (I 5) c k)) A (va_up L 35 (vp_updL (L 35) 0 ((g_bc (g_turn (I 5) c k))).toInt64)) O) set35 ?_
    refine a_goto (tgt := 21) q215_10 (by decide) ?_
    refine a_iconst (v := 0) q215_21 (by decide) ?_
    refine a_ireturn q215_22 (nr_int rfl _) ?_
    exact h3 y0 y1 y2

theorem c_L_allow {X : XS} {I : Nat → Int32} {A : Nat → Nat → Int32} {L : Nat → Nat → Int64} {O : Nat → UInt64} {Q : AO → AH → Prop} {c k : Int32} (h1 : ¬ (isCol c ∧ isChan k) → Q (.inl (some (.int 1))) (hp I A L O)) (h2 : isCol c → isChan k → ¬ f_forb I c k → Q (.inl (some (.int 2))) (hp I A L O)) (h3 : isCol c → isChan k → f_forb I c k → Q (.inl (some (.int 0))) (hp (va_up (va_up I 6 1) 5 (g_turn (I 5) c k)) A (va_up L 35 (vp_updL (L 35) 0 ((g_bc (g_turn (I 5) c k))).toInt64)) O)) : Call X 216 [.ref 0, .int c, .int k, .ref 35] (hp I A L O) Q := by
  refine call_ofH (by decide) (by decide) rfl ?_
  refine a_aload_n (i := 3) q216_0 rfl rfl ?_
  refine a_iconst (v := 0) q216_1 (by decide) ?_
  refine a_aload_n (i := 0) q216_2 rfl rfl ?_
  refine a_iload_n (i := 1) q216_3 rfl rfl ?_
  refine a_iload_n (i := 2) q216_4 rfl rfl ?_
  refine a_callVH (as := [_, _]) q216_5 rfl rfl rfl ⟨rfl, rfl⟩ rfl ?_
  refine c_X9_allow  (h1 := fun y0 => ?_) (h2 := fun y0 y1 y2 => ?_) (h3 := fun y0 y1 y2 => ?_)
  · skip
    refine ⟨(2, 13, 4, 2), by decide, rfl, ?_⟩
    refine a_iconst (v := 1) q216_15 (by decide) ?_
    refine a_ireturn q216_16 (nr_int rfl _) ?_
    exact h1 y0
  · skip
    refine ⟨(1, 17, 4, 2), by decide, rfl, ?_⟩
    refine a_iconst (v := 2) q216_19 (by decide) ?_
    refine a_ireturn q216_20 (nr_int rfl _) ?_
    exact h2 y0 y1 y2
  · skip
    refine hk_r ?_
    refine a_i2l q216_8 ?_
    refine a_last' (j := 0) q216_9 rfl rfl (by decide) (by decide) (h' := hp (va_up (va_up I 6 1) 5 (g_turn (I 5) c k)) A (va_up L 35 (vp_updL (L 35) 0 ((g_bc (g_turn (I 5) c k))).toInt64)) O) set35 ?_
    refine a_goto (tgt := 21) q216_10 (by decide) ?_
    refine a_iconst (v := 0) q216_21 (by decide) ?_
    refine a_ireturn q216_22 (nr_int rfl _) ?_
    exact h3 y0 y1 y2

theorem c_L_setWeight {X : XS} {I : Nat → Int32} {A : Nat → Nat → Int32} {L : Nat → Nat → Int64} {O : Nat → UInt64} {Q : AO → AH → Prop} {r w : Int32} (h1 : ¬ isRule r → Q (.inl (some (.int 1))) (hp I A L O)) (h2 : isRule r → ¬ (0 ≤ w ∧ w ≤ 99) → Q (.inl (some (.int 2))) (hp I A L O)) (h3 : ∀ j, j < 8 → r = nI j → (0 ≤ w ∧ w ≤ 99) → Q (.inl (some (.int 0))) (hp (va_up I 6 1) (va_up A 11 (upd (A 11) j w)) (va_up L 35 (vp_updL (L 35) 0 ((A 11 j)).toInt64)) O)) : Call X 217 [.ref 0, .int r, .int w, .ref 35] (hp I A L O) Q := by
  refine call_ofH (by decide) (by decide) rfl ?_
  refine a_aload_n (i := 3) q217_0 rfl rfl ?_
  refine a_iconst (v := 0) q217_1 (by decide) ?_
  refine a_aload_n (i := 0) q217_2 rfl rfl ?_
  refine a_iload_n (i := 1) q217_3 rfl rfl ?_
  refine a_iload_n (i := 2) q217_4 rfl rfl ?_
  refine a_callVH (as := [_, _]) q217_5 rfl rfl rfl ⟨rfl, rfl⟩ rfl ?_
  refine c_X9_setWeight  (h1 := fun y0 => ?_) (h2 := fun y0 y1 => ?_) (h3 := fun j y1 y2 y3 => ?_)
  · skip
    refine ⟨(2, 13, 4, 2), by decide, rfl, ?_⟩
    refine a_iconst (v := 1) q217_15 (by decide) ?_
    refine a_ireturn q217_16 (nr_int rfl _) ?_
    exact h1 y0
  · skip
    refine ⟨(0, 17, 4, 2), by decide, rfl, ?_⟩
    refine a_iconst (v := 2) q217_19 (by decide) ?_
    refine a_ireturn q217_20 (nr_int rfl _) ?_
    exact h2 y0 y1
  · skip
    refine hk_r ?_
    refine a_i2l q217_8 ?_
    refine a_last' (j := 0) q217_9 rfl rfl (by decide) (by decide) (h' := hp (va_up I 6 1) (va_up A 11 (upd (A 11) j w)) (va_up L 35 (vp_updL (L 35) 0 ((A 11 j)).toInt64)) O) set35 ?_
    refine a_goto (tgt := 21) q217_10 (by decide) ?_
    refine a_iconst (v := 0) q217_21 (by decide) ?_
    refine a_ireturn q217_22 (nr_int rfl _) ?_
    exact h3 j y1 y2 y3

theorem c_L_cost {X : XS} {I : Nat → Int32} {A : Nat → Nat → Int32} {L : Nat → Nat → Int64} {O : Nat → UInt64} {Q : AO → AH → Prop} {r : Int32} {k : Nat} (hk : I 7 = nI k) (hk5 : k ≤ 5) (h1 : ¬ isRk (nI (rkB I A L).1) r → Q (.inl (some (.int 1))) (hp (va_up (va_up I 6 0) 7 (nI (rkB I A L).1)) A (va_up L 14 (rkB I A L).2) O)) (h0 : isRk (nI (rkB I A L).1) r → Q (.inl (some (.int 0))) (hp (va_up (va_up I 6 0) 7 (nI (rkB I A L).1)) A (va_up (va_up L 14 (rkB I A L).2) 35 (vp_updL ((va_up L 14 (rkB I A L).2) 35) 0 ((p_cost (f_place (nI (rkB I A L).1) (rkB I A L).2 r))).toInt64)) O)) : Call X 218 [.ref 0, .int r, .ref 35] (hp I A L O) Q := by
  refine call_ofH (by decide) (by decide) rfl ?_
  refine a_aload_n (i := 2) q218_0 rfl rfl ?_
  refine a_iconst (v := 0) q218_1 (by decide) ?_
  refine a_aload_n (i := 0) q218_2 rfl rfl ?_
  refine a_iload_n (i := 1) q218_3 rfl rfl ?_
  refine a_callVH (as := [_]) q218_4 rfl rfl rfl ⟨rfl, rfl⟩ rfl ?_
  refine c_X9_cost (hk := hk) (hk5 := hk5) (h1 := fun y0 => ?_) (h0 := fun y0 => ?_)
  · skip
    refine ⟨(4, 12, 3, 1), by decide, rfl, ?_⟩
    refine a_iconst (v := 1) q218_13 (by decide) ?_
    refine a_ireturn q218_14 (nr_int rfl _) ?_
    exact h1 y0
  · skip
    refine hk_r ?_
    refine a_i2l q218_7 ?_
    refine a_last' (j := 0) q218_8 rfl rfl (by decide) (by decide) (h' := hp (va_up (va_up I 6 0) 7 (nI (rkB I A L).1)) A (va_up (va_up L 14 (rkB I A L).2) 35 (vp_updL ((va_up L 14 (rkB I A L).2) 35) 0 ((p_cost (f_place (nI (rkB I A L).1) (rkB I A L).2 r))).toInt64)) O) set35 ?_
    refine a_goto (tgt := 15) q218_9 (by decide) ?_
    refine a_iconst (v := 0) q218_15 (by decide) ?_
    refine a_ireturn q218_16 (nr_int rfl _) ?_
    exact h0 y0

theorem c_L_costByTrying {X : XS} {I : Nat → Int32} {A : Nat → Nat → Int32} {L : Nat → Nat → Int64} {O : Nat → UInt64} {Q : AO → AH → Prop} {r : Int32} (h1 : ¬ usC (A 4) 6 ≤ 3 → Q (.inl (some (.int 1))) (hp I A L O)) (h2 : usC (A 4) 6 ≤ 3 → ¬ isRk (nI (tAll I A L 0).1.1) r → Q (.inl (some (.int 2))) (hp (va_up (va_up (va_up I 10 (nI (tAll I A L 0).1.1)) 8 (tAll I A L 0).2.1) 9 (tAll I A L 0).2.2) A (va_up L 17 (tAll I A L 0).1.2) O)) (h0 : usC (A 4) 6 ≤ 3 → isRk (nI (tAll I A L 0).1.1) r → Q (.inl (some (.int 0))) (hp (va_up (va_up (va_up I 10 (nI (tAll I A L 0).1.1)) 8 (tAll I A L 0).2.1) 9 (tAll I A L 0).2.2) A (va_up (va_up L 17 (tAll I A L 0).1.2) 35 (vp_updL ((va_up L 17 (tAll I A L 0).1.2) 35) 0 ((p_cost (f_place (nI (tAll I A L 0).1.1) (tAll I A L 0).1.2 r))).toInt64)) O)) : Call X 219 [.ref 0, .int r, .ref 35] (hp I A L O) Q := by
  refine call_ofH (by decide) (by decide) rfl ?_
  refine a_aload_n (i := 2) q219_0 rfl rfl ?_
  refine a_iconst (v := 0) q219_1 (by decide) ?_
  refine a_aload_n (i := 0) q219_2 rfl rfl ?_
  refine a_iload_n (i := 1) q219_3 rfl rfl ?_
  refine a_callVH (as := [_]) q219_4 rfl rfl rfl ⟨rfl, rfl⟩ rfl ?_
  refine c_X9_costByTrying  (h1 := fun y0 => ?_) (h2 := fun y0 y1 => ?_) (h0 := fun y0 y1 => ?_)
  · skip
    refine ⟨(5, 12, 3, 1), by decide, rfl, ?_⟩
    refine a_iconst (v := 1) q219_13 (by decide) ?_
    refine a_ireturn q219_14 (nr_int rfl _) ?_
    exact h1 y0
  · skip
    refine ⟨(4, 15, 3, 1), by decide, rfl, ?_⟩
    refine a_iconst (v := 2) q219_16 (by decide) ?_
    refine a_ireturn q219_17 (nr_int rfl _) ?_
    exact h2 y0 y1
  · skip
    refine hk_r ?_
    refine a_i2l q219_7 ?_
    refine a_last' (j := 0) q219_8 rfl rfl (by decide) (by decide) (h' := hp (va_up (va_up (va_up I 10 (nI (tAll I A L 0).1.1)) 8 (tAll I A L 0).2.1) 9 (tAll I A L 0).2.2) A (va_up (va_up L 17 (tAll I A L 0).1.2) 35 (vp_updL ((va_up L 17 (tAll I A L 0).1.2) 35) 0 ((p_cost (f_place (nI (tAll I A L 0).1.1) (tAll I A L 0).1.2 r))).toInt64)) O) set35 ?_
    refine a_goto (tgt := 18) q219_9 (by decide) ?_
    refine a_iconst (v := 0) q219_18 (by decide) ?_
    refine a_ireturn q219_19 (nr_int rfl _) ?_
    exact h0 y0 y1

theorem c_L_mark {X : XS} {I : Nat → Int32} {A : Nat → Nat → Int32} {L : Nat → Nat → Int64} {O : Nat → UInt64} {Q : AO → AH → Prop} {r : Int32} {k : Nat} (hk : I 7 = nI k) (hk5 : k ≤ 5) (h1 : ¬ isRk (nI (rkB I A L).1) r → Q (.inl (some (.int 1))) (hp (va_up (va_up I 6 0) 7 (nI (rkB I A L).1)) A (va_up L 14 (rkB I A L).2) O)) (h0 : isRk (nI (rkB I A L).1) r → Q (.inl (some (.int 0))) (hp (va_up (va_up I 6 0) 7 (nI (rkB I A L).1)) A (va_up (va_up L 14 (rkB I A L).2) 35 (vp_updL ((va_up L 14 (rkB I A L).2) 35) 0 ((g_mark (p_chart (f_place (nI (rkB I A L).1) (rkB I A L).2 r)))).toInt64)) O)) : Call X 220 [.ref 0, .int r, .ref 35] (hp I A L O) Q := by
  refine call_ofH (by decide) (by decide) rfl ?_
  refine a_aload_n (i := 2) q220_0 rfl rfl ?_
  refine a_iconst (v := 0) q220_1 (by decide) ?_
  refine a_aload_n (i := 0) q220_2 rfl rfl ?_
  refine a_iload_n (i := 1) q220_3 rfl rfl ?_
  refine a_callVH (as := [_]) q220_4 rfl rfl rfl ⟨rfl, rfl⟩ rfl ?_
  refine c_X9_mark (hk := hk) (hk5 := hk5) (h1 := fun y0 => ?_) (h0 := fun y0 => ?_)
  · skip
    refine ⟨(4, 12, 3, 1), by decide, rfl, ?_⟩
    refine a_iconst (v := 1) q220_13 (by decide) ?_
    refine a_ireturn q220_14 (nr_int rfl _) ?_
    exact h1 y0
  · skip
    refine hk_r ?_
    refine a_i2l q220_7 ?_
    refine a_last' (j := 0) q220_8 rfl rfl (by decide) (by decide) (h' := hp (va_up (va_up I 6 0) 7 (nI (rkB I A L).1)) A (va_up (va_up L 14 (rkB I A L).2) 35 (vp_updL ((va_up L 14 (rkB I A L).2) 35) 0 ((g_mark (p_chart (f_place (nI (rkB I A L).1) (rkB I A L).2 r)))).toInt64)) O) set35 ?_
    refine a_goto (tgt := 15) q220_9 (by decide) ?_
    refine a_iconst (v := 0) q220_15 (by decide) ?_
    refine a_ireturn q220_16 (nr_int rfl _) ?_
    exact h0 y0

theorem c_L_aggregate {X : XS} {I : Nat → Int32} {A : Nat → Nat → Int32} {L : Nat → Nat → Int64} {O : Nat → UInt64} {Q : AO → AH → Prop} {r : Int32} {k : Nat} (hk : I 7 = nI k) (hk5 : k ≤ 5) (h1 : ¬ isRk (nI (rkB I A L).1) r → Q (.inl (some (.int 1))) (hp (va_up (va_up I 6 0) 7 (nI (rkB I A L).1)) A (va_up L 14 (rkB I A L).2) O)) (h0 : isRk (nI (rkB I A L).1) r → Q (.inl (some (.int 0))) (hp (va_up (va_up I 6 0) 7 (nI (rkB I A L).1)) A (va_up (va_up L 14 (rkB I A L).2) 35 (vp_updL ((va_up L 14 (rkB I A L).2) 35) 0 ((g_agg (p_chart (f_place (nI (rkB I A L).1) (rkB I A L).2 r)))).toInt64)) O)) : Call X 221 [.ref 0, .int r, .ref 35] (hp I A L O) Q := by
  refine call_ofH (by decide) (by decide) rfl ?_
  refine a_aload_n (i := 2) q221_0 rfl rfl ?_
  refine a_iconst (v := 0) q221_1 (by decide) ?_
  refine a_aload_n (i := 0) q221_2 rfl rfl ?_
  refine a_iload_n (i := 1) q221_3 rfl rfl ?_
  refine a_callVH (as := [_]) q221_4 rfl rfl rfl ⟨rfl, rfl⟩ rfl ?_
  refine c_X9_aggregate (hk := hk) (hk5 := hk5) (h1 := fun y0 => ?_) (h0 := fun y0 => ?_)
  · skip
    refine ⟨(4, 12, 3, 1), by decide, rfl, ?_⟩
    refine a_iconst (v := 1) q221_13 (by decide) ?_
    refine a_ireturn q221_14 (nr_int rfl _) ?_
    exact h1 y0
  · skip
    refine hk_r ?_
    refine a_i2l q221_7 ?_
    refine a_last' (j := 0) q221_8 rfl rfl (by decide) (by decide) (h' := hp (va_up (va_up I 6 0) 7 (nI (rkB I A L).1)) A (va_up (va_up L 14 (rkB I A L).2) 35 (vp_updL ((va_up L 14 (rkB I A L).2) 35) 0 ((g_agg (p_chart (f_place (nI (rkB I A L).1) (rkB I A L).2 r)))).toInt64)) O) set35 ?_
    refine a_goto (tgt := 15) q221_9 (by decide) ?_
    refine a_iconst (v := 0) q221_15 (by decide) ?_
    refine a_ireturn q221_16 (nr_int rfl _) ?_
    exact h0 y0

theorem c_L_column {X : XS} {I : Nat → Int32} {A : Nat → Nat → Int32} {L : Nat → Nat → Int64} {O : Nat → UInt64} {Q : AO → AH → Prop} {r c : Int32} {k : Nat} (hk : I 7 = nI k) (hk5 : k ≤ 5) (h1 : ¬ isRk (nI (rkB I A L).1) r → Q (.inl (some (.int 1))) (hp (va_up (va_up I 6 0) 7 (nI (rkB I A L).1)) A (va_up L 14 (rkB I A L).2) O)) (h2 : isRk (nI (rkB I A L).1) r → ¬ isChan c → Q (.inl (some (.int 2))) (hp (va_up (va_up I 6 0) 7 (nI (rkB I A L).1)) A (va_up L 14 (rkB I A L).2) O)) (h0 : isRk (nI (rkB I A L).1) r → isChan c → Q (.inl (some (.int 0))) (hp (va_up (va_up I 6 0) 7 (nI (rkB I A L).1)) A (va_up (va_up L 14 (rkB I A L).2) 35 (vp_updL ((va_up L 14 (rkB I A L).2) 35) 0 ((g_col (p_chart (f_place (nI (rkB I A L).1) (rkB I A L).2 r)) c)).toInt64)) O)) : Call X 222 [.ref 0, .int r, .int c, .ref 35] (hp I A L O) Q := by
  refine call_ofH (by decide) (by decide) rfl ?_
  refine a_aload_n (i := 3) q222_0 rfl rfl ?_
  refine a_iconst (v := 0) q222_1 (by decide) ?_
  refine a_aload_n (i := 0) q222_2 rfl rfl ?_
  refine a_iload_n (i := 1) q222_3 rfl rfl ?_
  refine a_iload_n (i := 2) q222_4 rfl rfl ?_
  refine a_callVH (as := [_, _]) q222_5 rfl rfl rfl ⟨rfl, rfl⟩ rfl ?_
  refine c_X9_column (hk := hk) (hk5 := hk5) (h1 := fun y0 => ?_) (h2 := fun y0 y1 => ?_) (h0 := fun y0 y1 => ?_)
  · skip
    refine ⟨(4, 13, 4, 2), by decide, rfl, ?_⟩
    refine a_iconst (v := 1) q222_15 (by decide) ?_
    refine a_ireturn q222_16 (nr_int rfl _) ?_
    exact h1 y0
  · skip
    refine ⟨(2, 17, 4, 2), by decide, rfl, ?_⟩
    refine a_iconst (v := 2) q222_19 (by decide) ?_
    refine a_ireturn q222_20 (nr_int rfl _) ?_
    exact h2 y0 y1
  · skip
    refine hk_r ?_
    refine a_i2l q222_8 ?_
    refine a_last' (j := 0) q222_9 rfl rfl (by decide) (by decide) (h' := hp (va_up (va_up I 6 0) 7 (nI (rkB I A L).1)) A (va_up (va_up L 14 (rkB I A L).2) 35 (vp_updL ((va_up L 14 (rkB I A L).2) 35) 0 ((g_col (p_chart (f_place (nI (rkB I A L).1) (rkB I A L).2 r)) c)).toInt64)) O) set35 ?_
    refine a_goto (tgt := 21) q222_10 (by decide) ?_
    refine a_iconst (v := 0) q222_21 (by decide) ?_
    refine a_ireturn q222_22 (nr_int rfl _) ?_
    exact h0 y0 y1

theorem c_L_setMargin {X : XS} {I : Nat → Int32} {A : Nat → Nat → Int32} {L : Nat → Nat → Int64} {O : Nat → UInt64} {Q : AO → AH → Prop} {m : Int32} (h1 : ¬ (0 ≤ m ∧ m ≤ 99) → Q (.inl (some (.int 1))) (hp I A L O)) (h0 : (0 ≤ m ∧ m ≤ 99) → Q (.inl (some (.int 0))) (hp (va_up I 0 m) A (va_up L 35 (vp_updL (L 35) 0 ((I 0)).toInt64)) O)) : Call X 223 [.ref 0, .int m, .ref 35] (hp I A L O) Q := by
  refine call_ofH (by decide) (by decide) rfl ?_
  refine a_aload_n (i := 2) q223_0 rfl rfl ?_
  refine a_iconst (v := 0) q223_1 (by decide) ?_
  refine a_aload_n (i := 0) q223_2 rfl rfl ?_
  refine a_iload_n (i := 1) q223_3 rfl rfl ?_
  refine a_callVH (as := [_]) q223_4 rfl rfl rfl ⟨rfl, rfl⟩ rfl ?_
  refine c_X9_setMargin  (h1 := fun y0 => ?_) (h0 := fun y0 => ?_)
  · skip
    refine ⟨(0, 12, 3, 1), by decide, rfl, ?_⟩
    refine a_iconst (v := 1) q223_13 (by decide) ?_
    refine a_ireturn q223_14 (nr_int rfl _) ?_
    exact h1 y0
  · skip
    refine hk_r ?_
    refine a_i2l q223_7 ?_
    refine a_last' (j := 0) q223_8 rfl rfl (by decide) (by decide) (h' := hp (va_up I 0 m) A (va_up L 35 (vp_updL (L 35) 0 ((I 0)).toInt64)) O) set35 ?_
    refine a_goto (tgt := 15) q223_9 (by decide) ?_
    refine a_iconst (v := 0) q223_15 (by decide) ?_
    refine a_ireturn q223_16 (nr_int rfl _) ?_
    exact h0 y0

theorem c_L_pick {X : XS} {I : Nat → Int32} {A : Nat → Nat → Int32} {L : Nat → Nat → Int64} {O : Nat → UInt64} {Q : AO → AH → Prop} {k : Nat} (hk : I 7 = nI k) (hk5 : k ≤ 5) {j : Nat} (hn : I 11 = nI j) (hj : j ≤ 4) (h1 : ¬ isRk (nI (rkB I A L).1) 0 → Q (.inl (some (.int 1))) (hp (va_up (va_up I 6 0) 7 (nI (rkB I A L).1)) A (va_up L 14 (rkB I A L).2) O)) (h2 : isRk (nI (rkB I A L).1) 0 → ¬ I 12 = -1 → (okC I A (I 12) ∧ f_cost I A L (I 12) ≤ p_cost (f_place (nI (rkB I A L).1) (rkB I A L).2 0) + I 0) → Q (.inl (some (.int 0))) (hp (va_up (va_up I 6 0) 7 (nI (rkB I A L).1)) A (va_up (va_up L 14 (rkB I A L).2) 35 (vp_updL ((va_up L 14 (rkB I A L).2) 35) 0 0)) O)) (h3 : isRk (nI (rkB I A L).1) 0 → I 12 = -1 → Q (.inl (some (.int 0))) (hp (va_up (va_up (va_up I 6 0) 7 (nI (rkB I A L).1)) 12 (p_chart (f_place (nI (rkB I A L).1) (rkB I A L).2 0))) A (va_up (va_up L 14 (rkB I A L).2) 35 (vp_updL ((va_up L 14 (rkB I A L).2) 35) 0 1)) O)) (h4 : isRk (nI (rkB I A L).1) 0 → ¬ I 12 = -1 → ¬ (okC I A (I 12) ∧ f_cost I A L (I 12) ≤ p_cost (f_place (nI (rkB I A L).1) (rkB I A L).2 0) + I 0) → Q (.inl (some (.int 0))) (hp (va_up (va_up (va_up (va_up I 6 0) 7 (nI (rkB I A L).1)) 11 (nI (kpN j))) 12 (p_chart (f_place (nI (rkB I A L).1) (rkB I A L).2 0))) (va_up A 20 (kpF (A 20) j (I 12))) (va_up (va_up L 14 (rkB I A L).2) 35 (vp_updL ((va_up L 14 (rkB I A L).2) 35) 0 1)) O)) : Call X 224 [.ref 0, .ref 35] (hp I A L O) Q := by
  refine call_ofH (by decide) (by decide) rfl ?_
  refine a_aload_n (i := 1) q224_0 rfl rfl ?_
  refine a_iconst (v := 0) q224_1 (by decide) ?_
  refine a_aload_n (i := 0) q224_2 rfl rfl ?_
  refine a_callVH (as := []) q224_3 rfl rfl rfl ⟨rfl, rfl⟩ rfl ?_
  refine c_X9_pick (hk := hk) (hk5 := hk5) (hn := hn) (hj := hj) (h1 := fun y0 => ?_) (h2 := fun y0 y1 y2 => ?_) (h3 := fun y0 y1 => ?_) (h4 := fun y0 y1 y2 => ?_)
  · skip
    refine ⟨(4, 18, 2, 1), by decide, rfl, ?_⟩
    refine a_iconst (v := 1) q224_19 (by decide) ?_
    refine a_ireturn q224_20 (nr_int rfl _) ?_
    exact h1 y0
  · skip
    refine hk_r ?_
    refine a_if_eq (tgt := 13) q224_6 (by decide) (fun zc6 => ?_) (fun zc6 => absurd (by decide) zc6)
    refine a_lconst (v := 0) q224_13 (by decide) ?_
    refine a_last' (j := 0) q224_14 rfl rfl (by decide) (by decide) (h' := hp (va_up (va_up I 6 0) 7 (nI (rkB I A L).1)) A (va_up (va_up L 14 (rkB I A L).2) 35 (vp_updL ((va_up L 14 (rkB I A L).2) 35) 0 0)) O) set35 ?_
    refine a_goto (tgt := 21) q224_15 (by decide) ?_
    refine a_iconst (v := 0) q224_21 (by decide) ?_
    refine a_ireturn q224_22 (nr_int rfl _) ?_
    exact h2 y0 y1 y2
  · skip
    refine hk_r ?_
    refine a_if_eq (tgt := 13) q224_6 (by decide) (fun zc6 => absurd zc6 (by decide)) (fun zc6 => ?_)
    refine a_lconst (v := 1) q224_9 (by decide) ?_
    refine a_goto (tgt := 14) q224_10 (by decide) ?_
    refine a_last' (j := 0) q224_14 rfl rfl (by decide) (by decide) (h' := hp (va_up (va_up (va_up I 6 0) 7 (nI (rkB I A L).1)) 12 (p_chart (f_place (nI (rkB I A L).1) (rkB I A L).2 0))) A (va_up (va_up L 14 (rkB I A L).2) 35 (vp_updL ((va_up L 14 (rkB I A L).2) 35) 0 1)) O) set35 ?_
    refine a_goto (tgt := 21) q224_15 (by decide) ?_
    refine a_iconst (v := 0) q224_21 (by decide) ?_
    refine a_ireturn q224_22 (nr_int rfl _) ?_
    exact h3 y0 y1
  · skip
    refine hk_r ?_
    refine a_if_eq (tgt := 13) q224_6 (by decide) (fun zc6 => absurd zc6 (by decide)) (fun zc6 => ?_)
    refine a_lconst (v := 1) q224_9 (by decide) ?_
    refine a_goto (tgt := 14) q224_10 (by decide) ?_
    refine a_last' (j := 0) q224_14 rfl rfl (by decide) (by decide) (h' := hp (va_up (va_up (va_up (va_up I 6 0) 7 (nI (rkB I A L).1)) 11 (nI (kpN j))) 12 (p_chart (f_place (nI (rkB I A L).1) (rkB I A L).2 0))) (va_up A 20 (kpF (A 20) j (I 12))) (va_up (va_up L 14 (rkB I A L).2) 35 (vp_updL ((va_up L 14 (rkB I A L).2) 35) 0 1)) O) set35 ?_
    refine a_goto (tgt := 21) q224_15 (by decide) ?_
    refine a_iconst (v := 0) q224_21 (by decide) ?_
    refine a_ireturn q224_22 (nr_int rfl _) ?_
    exact h4 y0 y1 y2

theorem c_L_pickMark {X : XS} {I : Nat → Int32} {A : Nat → Nat → Int32} {L : Nat → Nat → Int64} {O : Nat → UInt64} {Q : AO → AH → Prop}  (h1 : ¬ ¬ I 12 = -1 → Q (.inl (some (.int 1))) (hp I A L O)) (h0 : ¬ I 12 = -1 → Q (.inl (some (.int 0))) (hp I A (va_up L 35 (vp_updL (L 35) 0 ((g_mark (I 12))).toInt64)) O)) : Call X 225 [.ref 0, .ref 35] (hp I A L O) Q := by
  refine call_ofH (by decide) (by decide) rfl ?_
  refine a_aload_n (i := 1) q225_0 rfl rfl ?_
  refine a_iconst (v := 0) q225_1 (by decide) ?_
  refine a_aload_n (i := 0) q225_2 rfl rfl ?_
  refine a_callVH (as := []) q225_3 rfl rfl rfl ⟨rfl, rfl⟩ rfl ?_
  refine c_X9_pickMark  (h1 := fun y0 => ?_) (h0 := fun y0 => ?_)
  · skip
    refine ⟨(1, 11, 2, 1), by decide, rfl, ?_⟩
    refine a_iconst (v := 1) q225_12 (by decide) ?_
    refine a_ireturn q225_13 (nr_int rfl _) ?_
    exact h1 y0
  · skip
    refine hk_r ?_
    refine a_i2l q225_6 ?_
    refine a_last' (j := 0) q225_7 rfl rfl (by decide) (by decide) (h' := hp I A (va_up L 35 (vp_updL (L 35) 0 ((g_mark (I 12))).toInt64)) O) set35 ?_
    refine a_goto (tgt := 14) q225_8 (by decide) ?_
    refine a_iconst (v := 0) q225_14 (by decide) ?_
    refine a_ireturn q225_15 (nr_int rfl _) ?_
    exact h0 y0

theorem c_L_pickAggregate {X : XS} {I : Nat → Int32} {A : Nat → Nat → Int32} {L : Nat → Nat → Int64} {O : Nat → UInt64} {Q : AO → AH → Prop}  (h1 : ¬ ¬ I 12 = -1 → Q (.inl (some (.int 1))) (hp I A L O)) (h0 : ¬ I 12 = -1 → Q (.inl (some (.int 0))) (hp I A (va_up L 35 (vp_updL (L 35) 0 ((g_agg (I 12))).toInt64)) O)) : Call X 226 [.ref 0, .ref 35] (hp I A L O) Q := by
  refine call_ofH (by decide) (by decide) rfl ?_
  refine a_aload_n (i := 1) q226_0 rfl rfl ?_
  refine a_iconst (v := 0) q226_1 (by decide) ?_
  refine a_aload_n (i := 0) q226_2 rfl rfl ?_
  refine a_callVH (as := []) q226_3 rfl rfl rfl ⟨rfl, rfl⟩ rfl ?_
  refine c_X9_pickAggregate  (h1 := fun y0 => ?_) (h0 := fun y0 => ?_)
  · skip
    refine ⟨(1, 11, 2, 1), by decide, rfl, ?_⟩
    refine a_iconst (v := 1) q226_12 (by decide) ?_
    refine a_ireturn q226_13 (nr_int rfl _) ?_
    exact h1 y0
  · skip
    refine hk_r ?_
    refine a_i2l q226_6 ?_
    refine a_last' (j := 0) q226_7 rfl rfl (by decide) (by decide) (h' := hp I A (va_up L 35 (vp_updL (L 35) 0 ((g_agg (I 12))).toInt64)) O) set35 ?_
    refine a_goto (tgt := 14) q226_8 (by decide) ?_
    refine a_iconst (v := 0) q226_14 (by decide) ?_
    refine a_ireturn q226_15 (nr_int rfl _) ?_
    exact h0 y0

theorem c_L_pickColumn {X : XS} {I : Nat → Int32} {A : Nat → Nat → Int32} {L : Nat → Nat → Int64} {O : Nat → UInt64} {Q : AO → AH → Prop} {c : Int32} (h2 : ¬ isChan c → Q (.inl (some (.int 1))) (hp I A L O)) (h1 : isChan c → ¬ ¬ I 12 = -1 → Q (.inl (some (.int 2))) (hp I A L O)) (h0 : isChan c → ¬ I 12 = -1 → Q (.inl (some (.int 0))) (hp I A (va_up L 35 (vp_updL (L 35) 0 ((g_col (I 12) c)).toInt64)) O)) : Call X 227 [.ref 0, .int c, .ref 35] (hp I A L O) Q := by
  refine call_ofH (by decide) (by decide) rfl ?_
  refine a_aload_n (i := 2) q227_0 rfl rfl ?_
  refine a_iconst (v := 0) q227_1 (by decide) ?_
  refine a_aload_n (i := 0) q227_2 rfl rfl ?_
  refine a_iload_n (i := 1) q227_3 rfl rfl ?_
  refine a_callVH (as := [_]) q227_4 rfl rfl rfl ⟨rfl, rfl⟩ rfl ?_
  refine c_X9_pickColumn  (h2 := fun y0 => ?_) (h1 := fun y0 y1 => ?_) (h0 := fun y0 y1 => ?_)
  · skip
    refine ⟨(2, 12, 3, 1), by decide, rfl, ?_⟩
    refine a_iconst (v := 1) q227_13 (by decide) ?_
    refine a_ireturn q227_14 (nr_int rfl _) ?_
    exact h2 y0
  · skip
    refine ⟨(1, 15, 3, 1), by decide, rfl, ?_⟩
    refine a_iconst (v := 2) q227_16 (by decide) ?_
    refine a_ireturn q227_17 (nr_int rfl _) ?_
    exact h1 y0 y1
  · skip
    refine hk_r ?_
    refine a_i2l q227_7 ?_
    refine a_last' (j := 0) q227_8 rfl rfl (by decide) (by decide) (h' := hp I A (va_up L 35 (vp_updL (L 35) 0 ((g_col (I 12) c)).toInt64)) O) set35 ?_
    refine a_goto (tgt := 18) q227_9 (by decide) ?_
    refine a_iconst (v := 0) q227_18 (by decide) ?_
    refine a_ireturn q227_19 (nr_int rfl _) ?_
    exact h0 y0 y1

theorem c_L_unpick {X : XS} {I : Nat → Int32} {A : Nat → Nat → Int32} {L : Nat → Nat → Int64} {O : Nat → UInt64} {Q : AO → AH → Prop} {k : Nat} (hn : I 11 = nI k) (hk : k ≤ 4) (h1 : k = 0 → Q (.inl (some (.int 1))) (hp I A L O)) (h0 : ∀ j, k = j + 1 → Q (.inl (some (.int 0))) (hp (va_up (va_up I 12 (A 20 0)) 11 (nI j)) (va_up A 20 (shD (A 20) 0 j)) (va_up L 35 (vp_updL (L 35) 0 ((nI j)).toInt64)) O)) : Call X 228 [.ref 0, .ref 35] (hp I A L O) Q := by
  refine call_ofH (by decide) (by decide) rfl ?_
  refine a_aload_n (i := 1) q228_0 rfl rfl ?_
  refine a_iconst (v := 0) q228_1 (by decide) ?_
  refine a_aload_n (i := 0) q228_2 rfl rfl ?_
  refine a_callVH (as := []) q228_3 rfl rfl rfl ⟨rfl, rfl⟩ rfl ?_
  refine c_X9_unpick (hn := hn) (hk := hk) (h1 := fun y0 => ?_) (h0 := fun j y1 => ?_)
  · skip
    refine ⟨(1, 11, 2, 1), by decide, rfl, ?_⟩
    refine a_iconst (v := 1) q228_12 (by decide) ?_
    refine a_ireturn q228_13 (nr_int rfl _) ?_
    exact h1 y0
  · skip
    refine hk_r ?_
    refine a_i2l q228_6 ?_
    refine a_last' (j := 0) q228_7 rfl rfl (by decide) (by decide) (h' := hp (va_up (va_up I 12 (A 20 0)) 11 (nI j)) (va_up A 20 (shD (A 20) 0 j)) (va_up L 35 (vp_updL (L 35) 0 ((nI j)).toInt64)) O) set35 ?_
    refine a_goto (tgt := 14) q228_8 (by decide) ?_
    refine a_iconst (v := 0) q228_14 (by decide) ?_
    refine a_ireturn q228_15 (nr_int rfl _) ?_
    exact h0 j y1

theorem c_L_draftMark {X : XS} {I : Nat → Int32} {A : Nat → Nat → Int32} {L : Nat → Nat → Int64} {O : Nat → UInt64} {Q : AO → AH → Prop} {m : Int32} (h1 : ¬ isMk m → Q (.inl (some (.int 1))) (hp I A L O)) (h0 : isMk m → Q (.inl (some (.int 0))) (hp (va_up I 1 (g_wMark (I 1) m)) A (va_up L 35 (vp_updL (L 35) 0 ((g_mark (I 1))).toInt64)) O)) : Call X 229 [.ref 0, .int m, .ref 35] (hp I A L O) Q := by
  refine call_ofH (by decide) (by decide) rfl ?_
  refine a_aload_n (i := 2) q229_0 rfl rfl ?_
  refine a_iconst (v := 0) q229_1 (by decide) ?_
  refine a_aload_n (i := 0) q229_2 rfl rfl ?_
  refine a_iload_n (i := 1) q229_3 rfl rfl ?_
  refine a_callVH (as := [_]) q229_4 rfl rfl rfl ⟨rfl, rfl⟩ rfl ?_
  refine c_X9_draftMark  (h1 := fun y0 => ?_) (h0 := fun y0 => ?_)
  · skip
    refine ⟨(0, 12, 3, 1), by decide, rfl, ?_⟩
    refine a_iconst (v := 1) q229_13 (by decide) ?_
    refine a_ireturn q229_14 (nr_int rfl _) ?_
    exact h1 y0
  · skip
    refine hk_r ?_
    refine a_i2l q229_7 ?_
    refine a_last' (j := 0) q229_8 rfl rfl (by decide) (by decide) (h' := hp (va_up I 1 (g_wMark (I 1) m)) A (va_up L 35 (vp_updL (L 35) 0 ((g_mark (I 1))).toInt64)) O) set35 ?_
    refine a_goto (tgt := 15) q229_9 (by decide) ?_
    refine a_iconst (v := 0) q229_15 (by decide) ?_
    refine a_ireturn q229_16 (nr_int rfl _) ?_
    exact h0 y0

theorem c_L_draftAggregate {X : XS} {I : Nat → Int32} {A : Nat → Nat → Int32} {L : Nat → Nat → Int64} {O : Nat → UInt64} {Q : AO → AH → Prop} {a : Int32} (h1 : ¬ (a = 0 ∨ a = 1 ∨ a = 2) → Q (.inl (some (.int 1))) (hp I A L O)) (h0 : (a = 0 ∨ a = 1 ∨ a = 2) → Q (.inl (some (.int 0))) (hp (va_up I 1 (g_wAgg (I 1) a)) A (va_up L 35 (vp_updL (L 35) 0 ((g_agg (I 1))).toInt64)) O)) : Call X 230 [.ref 0, .int a, .ref 35] (hp I A L O) Q := by
  refine call_ofH (by decide) (by decide) rfl ?_
  refine a_aload_n (i := 2) q230_0 rfl rfl ?_
  refine a_iconst (v := 0) q230_1 (by decide) ?_
  refine a_aload_n (i := 0) q230_2 rfl rfl ?_
  refine a_iload_n (i := 1) q230_3 rfl rfl ?_
  refine a_callVH (as := [_]) q230_4 rfl rfl rfl ⟨rfl, rfl⟩ rfl ?_
  refine c_X9_draftAggregate  (h1 := fun y0 => ?_) (h0 := fun y0 => ?_)
  · skip
    refine ⟨(0, 12, 3, 1), by decide, rfl, ?_⟩
    refine a_iconst (v := 1) q230_13 (by decide) ?_
    refine a_ireturn q230_14 (nr_int rfl _) ?_
    exact h1 y0
  · skip
    refine hk_r ?_
    refine a_i2l q230_7 ?_
    refine a_last' (j := 0) q230_8 rfl rfl (by decide) (by decide) (h' := hp (va_up I 1 (g_wAgg (I 1) a)) A (va_up L 35 (vp_updL (L 35) 0 ((g_agg (I 1))).toInt64)) O) set35 ?_
    refine a_goto (tgt := 15) q230_9 (by decide) ?_
    refine a_iconst (v := 0) q230_15 (by decide) ?_
    refine a_ireturn q230_16 (nr_int rfl _) ?_
    exact h0 y0

theorem c_L_draftColumn {X : XS} {I : Nat → Int32} {A : Nat → Nat → Int32} {L : Nat → Nat → Int64} {O : Nat → UInt64} {Q : AO → AH → Prop} {k c : Int32} (h1 : ¬ (isChan k ∧ (c = -1 ∨ isCol c)) → Q (.inl (some (.int 1))) (hp I A L O)) (h2 : isChan k → (c = -1 ∨ isCol c) → (¬ c = g_col (I 1) k ∧ g_holds (I 1) c) → Q (.inl (some (.int 2))) (hp I A L O)) (h0 : isChan k → (c = -1 ∨ isCol c) → ¬ (¬ c = g_col (I 1) k ∧ g_holds (I 1) c) → Q (.inl (some (.int 0))) (hp (va_up I 1 (g_wCol (I 1) k c)) A (va_up L 35 (vp_updL (L 35) 0 ((g_col (I 1) k)).toInt64)) O)) : Call X 231 [.ref 0, .int k, .int c, .ref 35] (hp I A L O) Q := by
  refine call_ofH (by decide) (by decide) rfl ?_
  refine a_aload_n (i := 3) q231_0 rfl rfl ?_
  refine a_iconst (v := 0) q231_1 (by decide) ?_
  refine a_aload_n (i := 0) q231_2 rfl rfl ?_
  refine a_iload_n (i := 1) q231_3 rfl rfl ?_
  refine a_iload_n (i := 2) q231_4 rfl rfl ?_
  refine a_callVH (as := [_, _]) q231_5 rfl rfl rfl ⟨rfl, rfl⟩ rfl ?_
  refine c_X9_draftColumn  (h1 := fun y0 => ?_) (h2 := fun y0 y1 y2 => ?_) (h0 := fun y0 y1 y2 => ?_)
  · skip
    refine ⟨(2, 13, 4, 2), by decide, rfl, ?_⟩
    refine a_iconst (v := 1) q231_15 (by decide) ?_
    refine a_ireturn q231_16 (nr_int rfl _) ?_
    exact h1 y0
  · skip
    refine ⟨(1, 17, 4, 2), by decide, rfl, ?_⟩
    refine a_iconst (v := 2) q231_19 (by decide) ?_
    refine a_ireturn q231_20 (nr_int rfl _) ?_
    exact h2 y0 y1 y2
  · skip
    refine hk_r ?_
    refine a_i2l q231_8 ?_
    refine a_last' (j := 0) q231_9 rfl rfl (by decide) (by decide) (h' := hp (va_up I 1 (g_wCol (I 1) k c)) A (va_up L 35 (vp_updL (L 35) 0 ((g_col (I 1) k)).toInt64)) O) set35 ?_
    refine a_goto (tgt := 21) q231_10 (by decide) ?_
    refine a_iconst (v := 0) q231_21 (by decide) ?_
    refine a_ireturn q231_22 (nr_int rfl _) ?_
    exact h0 y0 y1 y2

theorem c_L_draftCost {X : XS} {I : Nat → Int32} {A : Nat → Nat → Int32} {L : Nat → Nat → Int64} {O : Nat → UInt64} {Q : AO → AH → Prop}  (h1 : ¬ okC I A (I 1) → Q (.inl (some (.int 1))) (hp I A L O)) (h0 : okC I A (I 1) → Q (.inl (some (.int 0))) (hp I A (va_up L 35 (vp_updL (L 35) 0 ((f_cost I A L (I 1))).toInt64)) O)) : Call X 232 [.ref 0, .ref 35] (hp I A L O) Q := by
  refine call_ofH (by decide) (by decide) rfl ?_
  refine a_aload_n (i := 1) q232_0 rfl rfl ?_
  refine a_iconst (v := 0) q232_1 (by decide) ?_
  refine a_aload_n (i := 0) q232_2 rfl rfl ?_
  refine a_callVH (as := []) q232_3 rfl rfl rfl ⟨rfl, rfl⟩ rfl ?_
  refine c_X9_draftCost  (h1 := fun y0 => ?_) (h0 := fun y0 => ?_)
  · skip
    refine ⟨(1, 11, 2, 1), by decide, rfl, ?_⟩
    refine a_iconst (v := 1) q232_12 (by decide) ?_
    refine a_ireturn q232_13 (nr_int rfl _) ?_
    exact h1 y0
  · skip
    refine hk_r ?_
    refine a_i2l q232_6 ?_
    refine a_last' (j := 0) q232_7 rfl rfl (by decide) (by decide) (h' := hp I A (va_up L 35 (vp_updL (L 35) 0 ((f_cost I A L (I 1))).toInt64)) O) set35 ?_
    refine a_goto (tgt := 14) q232_8 (by decide) ?_
    refine a_iconst (v := 0) q232_14 (by decide) ?_
    refine a_ireturn q232_15 (nr_int rfl _) ?_
    exact h0 y0

theorem c_L_draftRank {X : XS} {I : Nat → Int32} {A : Nat → Nat → Int32} {L : Nat → Nat → Int64} {O : Nat → UInt64} {Q : AO → AH → Prop}  (h1 : ¬ okC I A (I 1) → Q (.inl (some (.int 1))) (hp I A L O)) (h0 : okC I A (I 1) → Q (.inl (some (.int 0))) (hp (va_up (va_up (va_up I 10 (nI (tAll I A L (p_of (f_cost I A L (I 1)) (I 1))).1.1)) 8 (tAll I A L (p_of (f_cost I A L (I 1)) (I 1))).2.1) 9 (tAll I A L (p_of (f_cost I A L (I 1)) (I 1))).2.2) A (va_up (va_up L 17 (tAll I A L (p_of (f_cost I A L (I 1)) (I 1))).1.2) 35 (vp_updL ((va_up L 17 (tAll I A L (p_of (f_cost I A L (I 1)) (I 1))).1.2) 35) 0 ((tAll I A L (p_of (f_cost I A L (I 1)) (I 1))).2.2).toInt64)) O)) : Call X 233 [.ref 0, .ref 35] (hp I A L O) Q := by
  refine call_ofH (by decide) (by decide) rfl ?_
  refine a_aload_n (i := 1) q233_0 rfl rfl ?_
  refine a_iconst (v := 0) q233_1 (by decide) ?_
  refine a_aload_n (i := 0) q233_2 rfl rfl ?_
  refine a_callVH (as := []) q233_3 rfl rfl rfl ⟨rfl, rfl⟩ rfl ?_
  refine c_X9_draftRank  (h1 := fun y0 => ?_) (h0 := fun y0 => ?_)
  · skip
    refine ⟨(1, 11, 2, 1), by decide, rfl, ?_⟩
    refine a_iconst (v := 1) q233_12 (by decide) ?_
    refine a_ireturn q233_13 (nr_int rfl _) ?_
    exact h1 y0
  · skip
    refine hk_r ?_
    refine a_i2l q233_6 ?_
    refine a_last' (j := 0) q233_7 rfl rfl (by decide) (by decide) (h' := hp (va_up (va_up (va_up I 10 (nI (tAll I A L (p_of (f_cost I A L (I 1)) (I 1))).1.1)) 8 (tAll I A L (p_of (f_cost I A L (I 1)) (I 1))).2.1) 9 (tAll I A L (p_of (f_cost I A L (I 1)) (I 1))).2.2) A (va_up (va_up L 17 (tAll I A L (p_of (f_cost I A L (I 1)) (I 1))).1.2) 35 (vp_updL ((va_up L 17 (tAll I A L (p_of (f_cost I A L (I 1)) (I 1))).1.2) 35) 0 ((tAll I A L (p_of (f_cost I A L (I 1)) (I 1))).2.2).toInt64)) O) set35 ?_
    refine a_goto (tgt := 14) q233_8 (by decide) ?_
    refine a_iconst (v := 0) q233_14 (by decide) ?_
    refine a_ireturn q233_15 (nr_int rfl _) ?_
    exact h0 y0
