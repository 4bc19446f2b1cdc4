/-! the law's wrappers -/
theorem c_L_addRow {X : XS} {I : Nat → Int32} {A : Nat → Nat → Int32} {L : Nat → Nat → Int64} {O : AH} {Q : AO → AH → Prop} {a b c d e f : Int32} {n : Nat} (hn : I 2 = nI n) (hn40 : n ≤ 40) (h1 : ¬ (isVal a ∧ isVal b ∧ isVal c ∧ isVal d ∧ isVal e ∧ isVal f) → Q (.inl (some (.int (-900001)))) (hp I A L O)) (h2 : (isVal a ∧ isVal b ∧ isVal c ∧ isVal d ∧ isVal e ∧ isVal f) → 40 ≤ n → Q (.inl (some (.int (-900002)))) (hp I A L O)) (h3 : (isVal a ∧ isVal b ∧ isVal c ∧ isVal d ∧ isVal e ∧ isVal f) → n < 40 → Q (.inl (some (.int ((nI (n + 1)))))) (hp (va_up (va_up I 2 (nI (n + 1))) 6 1) (stA (apA A n a b c d e f) (n + 1) 6) (stL (apA A n a b c d e f) L (n + 1) 6) O)) : Call X 109 [.ref 1, .int a, .int b, .int c, .int d, .int e, .int f] (hp I A L O) Q := by
  refine call_ofH (by decide) (by decide) rfl ?_
  refine a_aload_n (i := 0) q109_0 rfl rfl ?_
  refine a_iload_n (i := 1) q109_1 rfl rfl ?_
  refine a_iload_n (i := 2) q109_2 rfl rfl ?_
  refine a_iload_n (i := 3) q109_3 rfl rfl ?_
  refine a_iload q109_4 rfl ?_
  refine a_iload q109_6 rfl ?_
  refine a_iload q109_8 rfl ?_
  refine a_callVH (as := [_, _, _, _, _, _]) q109_10 rfl rfl rfl ⟨rfl, rfl⟩ rfl ?_
  refine c_X9_addRow (hn := hn) (hn40 := hn40) (h1 := fun y0 => ?_) (h2 := fun y0 y1 => ?_) (h3 := fun y0 y1 => ?_)
  · skip
    refine ⟨(0, 14, 7, 2), by decide, rfl, ?_⟩
    refine a_ldc1 (v := (-900001)) q109_16 (by decide) ?_
    refine a_ireturn q109_18 (nr_int rfl _) ?_
    exact h1 y0
  · skip
    refine ⟨(1, 19, 7, 2), by decide, rfl, ?_⟩
    refine a_ldc1 (v := (-900002)) q109_21 (by decide) ?_
    refine a_ireturn q109_23 (nr_int rfl _) ?_
    exact h2 y0 y1
  · skip
    refine hk_r ?_
    refine a_ireturn q109_13 (nr_int rfl _) ?_
    exact h3 y0 y1

theorem c_L_dropRow {X : XS} {I : Nat → Int32} {A : Nat → Nat → Int32} {L : Nat → Nat → Int64} {O : AH} {Q : AO → AH → Prop} {r : Int32} {n : Nat} (hn : I 2 = nI n) (hn40 : n ≤ 40) (h1 : ¬ isRow I r → Q (.inl (some (.int (-900001)))) (hp I A L O)) (h2 : ∀ j m, r = nI j → n = m + 1 → j ≤ m → Q (.inl (some (.int ((nI m))))) (hp (va_up (va_up I 2 (nI m)) 6 1) (stA (remT A j (m - j) 6) m 6) (stL (remT A j (m - j) 6) L m 6) O)) : Call X 110 [.ref 1, .int r] (hp I A L O) Q := by
  refine call_ofH (by decide) (by decide) rfl ?_
  refine a_aload_n (i := 0) q110_0 rfl rfl ?_
  refine a_iload_n (i := 1) q110_1 rfl rfl ?_
  refine a_callVH (as := [_]) q110_2 rfl rfl rfl ⟨rfl, rfl⟩ rfl ?_
  refine c_X9_dropRow (hn := hn) (hn40 := hn40) (h1 := fun y0 => ?_) (h2 := fun j m y2 y3 y4 => ?_)
  · skip
    refine ⟨(2, 6, 2, 1), by decide, rfl, ?_⟩
    refine a_ldc1 (v := (-900001)) q110_7 (by decide) ?_
    refine a_ireturn q110_9 (nr_int rfl _) ?_
    exact h1 y0
  · skip
    refine hk_r ?_
    refine a_ireturn q110_5 (nr_int rfl _) ?_
    exact h2 j m y2 y3 y4

theorem c_L_put {X : XS} {I : Nat → Int32} {A : Nat → Nat → Int32} {L : Nat → Nat → Int64} {O : AH} {Q : AO → AH → Prop} {r c v : Int32} {n : Nat} (hn : I 2 = nI n) (hn40 : n ≤ 40) (h1 : ¬ (isRow I r ∧ isCol c) → Q (.inl (some (.int (-900001)))) (hp I A L O)) (h2 : isRow I r ∧ isCol c → ¬ isVal v → Q (.inl (some (.int (-900002)))) (hp I A L O)) (h3 : ∀ j k, j < n → k < 6 → r = nI j → c = nI k → isVal v → Q (.inl (some (.int ((cv A k j))))) (hp (va_up I 6 1) (studyA (st1 A k j v) k n) (studyL (st1 A k j v) L k n) O)) : Call X 111 [.ref 1, .int r, .int c, .int v] (hp I A L O) Q := by
  refine call_ofH (by decide) (by decide) rfl ?_
  refine a_aload_n (i := 0) q111_0 rfl rfl ?_
  refine a_iload_n (i := 1) q111_1 rfl rfl ?_
  refine a_iload_n (i := 2) q111_2 rfl rfl ?_
  refine a_iload_n (i := 3) q111_3 rfl rfl ?_
  refine a_callVH (as := [_, _, _]) q111_4 rfl rfl rfl ⟨rfl, rfl⟩ rfl ?_
  refine c_X9_put (hn := hn) (hn40 := hn40) (h1 := fun y0 => ?_) (h2 := fun y0 y1 => ?_) (h3 := fun j k y2 y3 y4 y5 y6 => ?_)
  · skip
    refine ⟨(2, 8, 4, 2), by decide, rfl, ?_⟩
    refine a_ldc1 (v := (-900001)) q111_10 (by decide) ?_
    refine a_ireturn q111_12 (nr_int rfl _) ?_
    exact h1 y0
  · skip
    refine ⟨(0, 13, 4, 2), by decide, rfl, ?_⟩
    refine a_ldc1 (v := (-900002)) q111_15 (by decide) ?_
    refine a_ireturn q111_17 (nr_int rfl _) ?_
    exact h2 y0 y1
  · skip
    refine hk_r ?_
    refine a_ireturn q111_7 (nr_int rfl _) ?_
    exact h3 j k y2 y3 y4 y5 y6

theorem c_L_different {X : XS} {I : Nat → Int32} {A : Nat → Nat → Int32} {L : Nat → Nat → Int64} {O : AH} {Q : AO → AH → Prop} {c : Int32} (h0 : isCol c → Q (.inl (some (.int ((f_differentIn A c))))) (hp I A L O)) (h1 : ¬ isCol c → Q (.inl (some (.int (-900001)))) (hp I A L O)) : Call X 112 [.ref 1, .int c] (hp I A L O) Q := by
  refine call_ofH (by decide) (by decide) rfl ?_
  refine a_aload_n (i := 0) q112_0 rfl rfl ?_
  refine a_iload_n (i := 1) q112_1 rfl rfl ?_
  refine a_callVH (as := [_]) q112_2 rfl rfl rfl ⟨rfl, rfl⟩ rfl ?_
  refine c_X9_different  (h0 := fun y0 => ?_) (h1 := fun y0 => ?_)
  · skip
    refine hk_r ?_
    refine a_ireturn q112_5 (nr_int rfl _) ?_
    exact h0 y0
  · skip
    refine ⟨(2, 6, 2, 1), by decide, rfl, ?_⟩
    refine a_ldc1 (v := (-900001)) q112_7 (by decide) ?_
    refine a_ireturn q112_9 (nr_int rfl _) ?_
    exact h1 y0

theorem c_L_sumOf {X : XS} {I : Nat → Int32} {A : Nat → Nat → Int32} {L : Nat → Nat → Int64} {O : AH} {Q : AO → AH → Prop} {c : Int32} (h0 : isCol c → Q (.inl (some (.long ((f_sumIn L c))))) (hp I A L O)) (h1 : ¬ isCol c → Q (.inl (some (.long (-900001)))) (hp I A L O)) : Call X 113 [.ref 1, .int c] (hp I A L O) Q := by
  refine call_ofH (by decide) (by decide) rfl ?_
  refine a_aload_n (i := 0) q113_0 rfl rfl ?_
  refine a_iload_n (i := 1) q113_1 rfl rfl ?_
  refine a_callVH (as := [_]) q113_2 rfl rfl rfl ⟨rfl, rfl⟩ rfl ?_
  refine c_X9_sumOf  (h0 := fun y0 => ?_) (h1 := fun y0 => ?_)
  · skip
    refine hk_r ?_
    refine a_lreturn q113_5 rfl ?_
    exact h0 y0
  · skip
    refine ⟨(2, 6, 2, 1), by decide, rfl, ?_⟩
    refine a_ldc2 (v := (-900001)) q113_7 (by decide) ?_
    refine a_lreturn q113_10 rfl ?_
    exact h1 y0

theorem c_L_meanOf {X : XS} {I : Nat → Int32} {A : Nat → Nat → Int32} {L : Nat → Nat → Int64} {O : AH} {Q : AO → AH → Prop} {c : Int32} (hne : isCol c → ¬ f_countIn A c = 0 → vf_n64 (FP.ddiv (FP.l2d (f_sumIn L c)) (FP.i2d (f_countIn A c)))) (h1 : ¬ isCol c → Q (.inl (some (.double 13919350198670196736))) (hp I A L O)) (h2 : isCol c → f_countIn A c = 0 → Q (.inl (some (.double 13919350207260131328))) (hp I A L O)) (h0 : isCol c → ¬ f_countIn A c = 0 → Q (.inl (some (.double ((FP.ddiv (FP.l2d (f_sumIn L c)) (FP.i2d (f_countIn A c))))))) (hp I A L O)) : Call X 114 [.ref 1, .int c] (hp I A L O) Q := by
  refine call_ofH (by decide) (by decide) rfl ?_
  refine a_aload_n (i := 0) q114_0 rfl rfl ?_
  refine a_iload_n (i := 1) q114_1 rfl rfl ?_
  refine a_callVH (as := [_]) q114_2 rfl rfl rfl ⟨rfl, rfl⟩ rfl ?_
  refine c_X9_meanOf (hne := hne) (h1 := fun y0 => ?_) (h2 := fun y0 y1 => ?_) (h0 := fun y0 y1 => ?_)
  · skip
    refine ⟨(2, 6, 2, 1), by decide, rfl, ?_⟩
    refine a_ldc2d (v := 13919350198670196736) q114_7 (by decide) ?_
    refine a_dreturn q114_10 rfl ?_
    exact h1 y0
  · skip
    refine ⟨(3, 11, 2, 1), by decide, rfl, ?_⟩
    refine a_ldc2d (v := 13919350207260131328) q114_12 (by decide) ?_
    refine a_dreturn q114_15 rfl ?_
    exact h2 y0 y1
  · skip
    refine hk_r ?_
    refine a_dreturn q114_5 rfl ?_
    exact h0 y0 y1

theorem c_L_filled {X : XS} {I : Nat → Int32} {A : Nat → Nat → Int32} {L : Nat → Nat → Int64} {O : AH} {Q : AO → AH → Prop} {c : Int32} (hne : isCol c → ¬ I 2 = 0 → vf_n32 (FP.fdiv (FP.i2f (f_countIn A c)) (FP.i2f (I 2)))) (h1 : ¬ isCol c → Q (.inl (some (.float 3378231824))) (hp I A L O)) (h2 : isCol c → I 2 = 0 → Q (.inl (some (.float 3378231840))) (hp I A L O)) (h0 : isCol c → ¬ I 2 = 0 → Q (.inl (some (.float ((FP.fdiv (FP.i2f (f_countIn A c)) (FP.i2f (I 2))))))) (hp I A L O)) : Call X 115 [.ref 1, .int c] (hp I A L O) Q := by
  refine call_ofH (by decide) (by decide) rfl ?_
  refine a_aload_n (i := 0) q115_0 rfl rfl ?_
  refine a_iload_n (i := 1) q115_1 rfl rfl ?_
  refine a_callVH (as := [_]) q115_2 rfl rfl rfl ⟨rfl, rfl⟩ rfl ?_
  refine c_X9_filled (hne := hne) (h1 := fun y0 => ?_) (h2 := fun y0 y1 => ?_) (h0 := fun y0 y1 => ?_)
  · skip
    refine ⟨(2, 6, 2, 1), by decide, rfl, ?_⟩
    refine a_ldcf (v := 3378231824) q115_7 (by decide) ?_
    refine a_freturn q115_9 rfl ?_
    exact h1 y0
  · skip
    refine ⟨(3, 10, 2, 1), by decide, rfl, ?_⟩
    refine a_ldcf (v := 3378231840) q115_11 (by decide) ?_
    refine a_freturn q115_13 rfl ?_
    exact h2 y0 y1
  · skip
    refine hk_r ?_
    refine a_freturn q115_5 rfl ?_
    exact h0 y0 y1

theorem c_L_kindOf {X : XS} {I : Nat → Int32} {A : Nat → Nat → Int32} {L : Nat → Nat → Int64} {O : AH} {Q : AO → AH → Prop} {c : Int32} (h0 : isCol c → Q (.inl (some (.int ((f_kindAt A c))))) (hp I A L O)) (h1 : ¬ isCol c → Q (.inl (some (.int (-900001)))) (hp I A L O)) : Call X 116 [.ref 1, .int c] (hp I A L O) Q := by
  refine call_ofH (by decide) (by decide) rfl ?_
  refine a_aload_n (i := 0) q116_0 rfl rfl ?_
  refine a_iload_n (i := 1) q116_1 rfl rfl ?_
  refine a_callVH (as := [_]) q116_2 rfl rfl rfl ⟨rfl, rfl⟩ rfl ?_
  refine c_X9_kindOf  (h0 := fun y0 => ?_) (h1 := fun y0 => ?_)
  · skip
    refine hk_r ?_
    refine a_ireturn q116_5 (nr_int rfl _) ?_
    exact h0 y0
  · skip
    refine ⟨(2, 6, 2, 1), by decide, rfl, ?_⟩
    refine a_ldc1 (v := (-900001)) q116_7 (by decide) ?_
    refine a_ireturn q116_9 (nr_int rfl _) ?_
    exact h1 y0

theorem c_L_force {X : XS} {I : Nat → Int32} {A : Nat → Nat → Int32} {L : Nat → Nat → Int64} {O : AH} {Q : AO → AH → Prop} {c k : Int32} {n : Nat} (hn : I 2 = nI n) (hn40 : n ≤ 40) (h1 : ¬ isCol c → Q (.inl (some (.int (-900001)))) (hp I A L O)) (h2 : isCol c → ¬ (k = 2 ∨ k = 3 ∨ k = 4) → Q (.inl (some (.int (-900002)))) (hp I A L O)) (h3 : ∀ j, j < 6 → c = nI j → (k = 2 ∨ k = 3 ∨ k = 4) → Q (.inl (some (.int ((studyA (va_up A 3 (upd (A 3) j k)) j n 4 j))))) (hp (va_up I 6 1) (studyA (va_up A 3 (upd (A 3) j k)) j n) (studyL (va_up A 3 (upd (A 3) j k)) L j n) O)) : Call X 117 [.ref 1, .int c, .int k] (hp I A L O) Q := by
  refine call_ofH (by decide) (by decide) rfl ?_
  refine a_aload_n (i := 0) q117_0 rfl rfl ?_
  refine a_iload_n (i := 1) q117_1 rfl rfl ?_
  refine a_iload_n (i := 2) q117_2 rfl rfl ?_
  refine a_callVH (as := [_, _]) q117_3 rfl rfl rfl ⟨rfl, rfl⟩ rfl ?_
  refine c_X9_force (hn := hn) (hn40 := hn40) (h1 := fun y0 => ?_) (h2 := fun y0 y1 => ?_) (h3 := fun j y1 y2 y3 => ?_)
  · skip
    refine ⟨(2, 7, 3, 1), by decide, rfl, ?_⟩
    refine a_ldc1 (v := (-900001)) q117_8 (by decide) ?_
    refine a_ireturn q117_10 (nr_int rfl _) ?_
    exact h1 y0
  · skip
    refine ⟨(0, 11, 3, 1), by decide, rfl, ?_⟩
    refine a_ldc1 (v := (-900002)) q117_12 (by decide) ?_
    refine a_ireturn q117_14 (nr_int rfl _) ?_
    exact h2 y0 y1
  · skip
    refine hk_r ?_
    refine a_ireturn q117_6 (nr_int rfl _) ?_
    exact h3 j y1 y2 y3

theorem c_L_unforce {X : XS} {I : Nat → Int32} {A : Nat → Nat → Int32} {L : Nat → Nat → Int64} {O : AH} {Q : AO → AH → Prop} {c : Int32} {n : Nat} (hn : I 2 = nI n) (hn40 : n ≤ 40) (h1 : ¬ isCol c → Q (.inl (some (.int (-900001)))) (hp I A L O)) (h2 : ∀ j, j < 6 → c = nI j → A 3 j = -1 → Q (.inl (some (.int (-900002)))) (hp I A L O)) (h3 : ∀ j, j < 6 → c = nI j → ¬ A 3 j = -1 → Q (.inl (some (.int ((studyA (va_up A 3 (upd (A 3) j (-1))) j n 4 j))))) (hp (va_up I 6 1) (studyA (va_up A 3 (upd (A 3) j (-1))) j n) (studyL (va_up A 3 (upd (A 3) j (-1))) L j n) O)) : Call X 118 [.ref 1, .int c] (hp I A L O) Q := by
  refine call_ofH (by decide) (by decide) rfl ?_
  refine a_aload_n (i := 0) q118_0 rfl rfl ?_
  refine a_iload_n (i := 1) q118_1 rfl rfl ?_
  refine a_callVH (as := [_]) q118_2 rfl rfl rfl ⟨rfl, rfl⟩ rfl ?_
  refine c_X9_unforce (hn := hn) (hn40 := hn40) (h1 := fun y0 => ?_) (h2 := fun j y1 y2 y3 => ?_) (h3 := fun j y1 y2 y3 => ?_)
  · skip
    refine ⟨(2, 6, 2, 1), by decide, rfl, ?_⟩
    refine a_ldc1 (v := (-900001)) q118_7 (by decide) ?_
    refine a_ireturn q118_9 (nr_int rfl _) ?_
    exact h1 y0
  · skip
    refine ⟨(1, 10, 2, 1), by decide, rfl, ?_⟩
    refine a_ldc1 (v := (-900002)) q118_11 (by decide) ?_
    refine a_ireturn q118_13 (nr_int rfl _) ?_
    exact h2 j y1 y2 y3
  · skip
    refine hk_r ?_
    refine a_ireturn q118_5 (nr_int rfl _) ?_
    exact h3 j y1 y2 y3

theorem c_L_wish {X : XS} {I : Nat → Int32} {A : Nat → Nat → Int32} {L : Nat → Nat → Int64} {O : AH} {Q : AO → AH → Prop} {c z : Int32} (h1 : ¬ isCol c → Q (.inl (some (.int (-900001)))) (hp I A L O)) (h0 : isCol c → Q (.inl (some (.int ((g_bc (g_wish (I 3) c z)))))) (hp (va_up (va_up I 6 1) 3 (g_wish (I 3) c z)) A L O)) : Call X 119 [.ref 1, .int c, .int z] (hp I A L O) Q := by
  refine call_ofH (by decide) (by decide) rfl ?_
  refine a_aload_n (i := 0) q119_0 rfl rfl ?_
  refine a_iload_n (i := 1) q119_1 rfl rfl ?_
  refine a_iload_n (i := 2) q119_2 rfl rfl ?_
  refine a_callVH (as := [_, _]) q119_3 rfl rfl rfl ⟨rfl, rfl⟩ rfl ?_
  refine c_X9_wish  (h1 := fun y0 => ?_) (h0 := fun y0 => ?_)
  · skip
    refine ⟨(2, 7, 3, 1), by decide, rfl, ?_⟩
    refine a_ldc1 (v := (-900001)) q119_8 (by decide) ?_
    refine a_ireturn q119_10 (nr_int rfl _) ?_
    exact h1 y0
  · skip
    refine hk_r ?_
    refine a_ireturn q119_6 (nr_int rfl _) ?_
    exact h0 y0

theorem c_L_wishMark {X : XS} {I : Nat → Int32} {A : Nat → Nat → Int32} {L : Nat → Nat → Int64} {O : AH} {Q : AO → AH → Prop} {m : Int32} (hm : narrow .char (.int m) = .int m) (hf : fits .char (.int m) = true) (hn4 : narrow .char (.int (I 4)) = .int (I 4)) (h1 : ¬ isMk m → ¬ m = 45 → Q (.inl (some (.int (-900001)))) (hp I A L O)) (h0 : (isMk m ∨ m = 45) → Q (.inl (some (.int ((I 4))))) (hp (va_up (va_up I 6 1) 4 m) A L O)) : Call X 120 [.ref 1, .int m] (hp I A L O) Q := by
  refine call_ofH (by decide) (by decide) rfl ?_
  refine a_aload_n (i := 0) q120_0 rfl rfl ?_
  refine a_iload_n (i := 1) q120_1 rfl rfl ?_
  refine a_callVH (as := [_]) q120_2 rfl rfl rfl ⟨rfl, rfl⟩ rfl ?_
  refine c_X9_wishMark (hm := hm) (hf := hf) (hn4 := hn4) (h1 := fun y0 y1 => ?_) (h0 := fun y0 => ?_)
  · skip
    refine ⟨(0, 6, 2, 1), by decide, rfl, ?_⟩
    refine a_ldc1 (v := (-900001)) q120_7 (by decide) ?_
    refine a_ireturn q120_9 (nr_int rfl _) ?_
    exact h1 y0 y1
  · skip
    refine hk_r ?_
    refine a_ireturn q120_5 (nr_int rfl _) ?_
    exact h0 y0

theorem c_L_forbid {X : XS} {I : Nat → Int32} {A : Nat → Nat → Int32} {L : Nat → Nat → Int64} {O : AH} {Q : AO → AH → Prop} {c k : Int32} (h1 : ¬ (isCol c ∧ isChan k) → Q (.inl (some (.int (-900001)))) (hp I A L O)) (h2 : isCol c → isChan k → f_forb I c k → Q (.inl (some (.int (-900002)))) (hp I A L O)) (h3 : isCol c → isChan k → ¬ f_forb I c k → Q (.inl (some (.int ((g_bc (g_turn (I 5) c k)))))) (hp (va_up (va_up I 6 1) 5 (g_turn (I 5) c k)) A L O)) : Call X 121 [.ref 1, .int c, .int k] (hp I A L O) Q := by
  refine call_ofH (by decide) (by decide) rfl ?_
  refine a_aload_n (i := 0) q121_0 rfl rfl ?_
  refine a_iload_n (i := 1) q121_1 rfl rfl ?_
  refine a_iload_n (i := 2) q121_2 rfl rfl ?_
  refine a_callVH (as := [_, _]) q121_3 rfl rfl rfl ⟨rfl, rfl⟩ rfl ?_
  refine c_X9_forbid  (h1 := fun y0 => ?_) (h2 := fun y0 y1 y2 => ?_) (h3 := fun y0 y1 y2 => ?_)
  · skip
    refine ⟨(2, 7, 3, 1), by decide, rfl, ?_⟩
    refine a_ldc1 (v := (-900001)) q121_8 (by decide) ?_
    refine a_ireturn q121_10 (nr_int rfl _) ?_
    exact h1 y0
  · skip
    refine ⟨(1, 11, 3, 1), by decide, rfl, ?_⟩
    refine a_ldc1 (v := (-900002)) q121_12 (by decide) ?_
    refine a_ireturn q121_14 (nr_int rfl _) ?_
    exact h2 y0 y1 y2
  · skip
    refine hk_r ?_
    refine a_ireturn q121_6 (nr_int rfl _) ?_
    exact h3 y0 y1 y2

theorem c_L_allow {X : XS} {I : Nat → Int32} {A : Nat → Nat → Int32} {L : Nat → Nat → Int64} {O : AH} {Q : AO → AH → Prop} {c k : Int32} (h1 : ¬ (isCol c ∧ isChan k) → Q (.inl (some (.int (-900001)))) (hp I A L O)) (h2 : isCol c → isChan k → ¬ f_forb I c k → Q (.inl (some (.int (-900002)))) (hp I A L O)) (h3 : isCol c → isChan k → f_forb I c k → Q (.inl (some (.int ((g_bc (g_turn (I 5) c k)))))) (hp (va_up (va_up I 6 1) 5 (g_turn (I 5) c k)) A L O)) : Call X 122 [.ref 1, .int c, .int k] (hp I A L O) Q := by
  refine call_ofH (by decide) (by decide) rfl ?_
  refine a_aload_n (i := 0) q122_0 rfl rfl ?_
  refine a_iload_n (i := 1) q122_1 rfl rfl ?_
  refine a_iload_n (i := 2) q122_2 rfl rfl ?_
  refine a_callVH (as := [_, _]) q122_3 rfl rfl rfl ⟨rfl, rfl⟩ rfl ?_
  refine c_X9_allow  (h1 := fun y0 => ?_) (h2 := fun y0 y1 y2 => ?_) (h3 := fun y0 y1 y2 => ?_)
  · skip
    refine ⟨(2, 7, 3, 1), by decide, rfl, ?_⟩
    refine a_ldc1 (v := (-900001)) q122_8 (by decide) ?_
    refine a_ireturn q122_10 (nr_int rfl _) ?_
    exact h1 y0
  · skip
    refine ⟨(1, 11, 3, 1), by decide, rfl, ?_⟩
    refine a_ldc1 (v := (-900002)) q122_12 (by decide) ?_
    refine a_ireturn q122_14 (nr_int rfl _) ?_
    exact h2 y0 y1 y2
  · skip
    refine hk_r ?_
    refine a_ireturn q122_6 (nr_int rfl _) ?_
    exact h3 y0 y1 y2

theorem c_L_setWeight {X : XS} {I : Nat → Int32} {A : Nat → Nat → Int32} {L : Nat → Nat → Int64} {O : AH} {Q : AO → AH → Prop} {r w : Int32} (h1 : ¬ isRule r → Q (.inl (some (.int (-900001)))) (hp I A L O)) (h2 : isRule r → ¬ (0 ≤ w ∧ w ≤ 99) → Q (.inl (some (.int (-900002)))) (hp I A L O)) (h3 : ∀ j, j < 8 → r = nI j → (0 ≤ w ∧ w ≤ 99) → Q (.inl (some (.int ((A 11 j))))) (hp (va_up I 6 1) (va_up A 11 (upd (A 11) j w)) L O)) : Call X 123 [.ref 1, .int r, .int w] (hp I A L O) Q := by
  refine call_ofH (by decide) (by decide) rfl ?_
  refine a_aload_n (i := 0) q123_0 rfl rfl ?_
  refine a_iload_n (i := 1) q123_1 rfl rfl ?_
  refine a_iload_n (i := 2) q123_2 rfl rfl ?_
  refine a_callVH (as := [_, _]) q123_3 rfl rfl rfl ⟨rfl, rfl⟩ rfl ?_
  refine c_X9_setWeight  (h1 := fun y0 => ?_) (h2 := fun y0 y1 => ?_) (h3 := fun j y1 y2 y3 => ?_)
  · skip
    refine ⟨(2, 7, 3, 1), by decide, rfl, ?_⟩
    refine a_ldc1 (v := (-900001)) q123_8 (by decide) ?_
    refine a_ireturn q123_10 (nr_int rfl _) ?_
    exact h1 y0
  · skip
    refine ⟨(0, 11, 3, 1), by decide, rfl, ?_⟩
    refine a_ldc1 (v := (-900002)) q123_12 (by decide) ?_
    refine a_ireturn q123_14 (nr_int rfl _) ?_
    exact h2 y0 y1
  · skip
    refine hk_r ?_
    refine a_ireturn q123_6 (nr_int rfl _) ?_
    exact h3 j y1 y2 y3

theorem c_L_cost {X : XS} {I : Nat → Int32} {A : Nat → Nat → Int32} {L : Nat → Nat → Int64} {O : AH} {Q : AO → AH → Prop} {r : Int32} {k : Nat} (hk : I 7 = nI k) (hk5 : k ≤ 5) (h1 : ¬ isRk (nI (rkB I A L).1) r → Q (.inl (some (.int (-900001)))) (hp (va_up (va_up I 6 0) 7 (nI (rkB I A L).1)) A (va_up L 14 (rkB I A L).2) O)) (h0 : isRk (nI (rkB I A L).1) r → Q (.inl (some (.int ((p_cost (f_place (nI (rkB I A L).1) (rkB I A L).2 r)))))) (hp (va_up (va_up I 6 0) 7 (nI (rkB I A L).1)) A (va_up L 14 (rkB I A L).2) O)) : Call X 124 [.ref 1, .int r] (hp I A L O) Q := by
  refine call_ofH (by decide) (by decide) rfl ?_
  refine a_aload_n (i := 0) q124_0 rfl rfl ?_
  refine a_iload_n (i := 1) q124_1 rfl rfl ?_
  refine a_callVH (as := [_]) q124_2 rfl rfl rfl ⟨rfl, rfl⟩ rfl ?_
  refine c_X9_cost (hk := hk) (hk5 := hk5) (h1 := fun y0 => ?_) (h0 := fun y0 => ?_)
  · skip
    refine ⟨(4, 6, 2, 1), by decide, rfl, ?_⟩
    refine a_ldc1 (v := (-900001)) q124_7 (by decide) ?_
    refine a_ireturn q124_9 (nr_int rfl _) ?_
    exact h1 y0
  · skip
    refine hk_r ?_
    refine a_ireturn q124_5 (nr_int rfl _) ?_
    exact h0 y0

theorem c_L_costByTrying {X : XS} {I : Nat → Int32} {A : Nat → Nat → Int32} {L : Nat → Nat → Int64} {O : AH} {Q : AO → AH → Prop} {r : Int32} (h1 : ¬ usC (A 4) 6 ≤ 3 → Q (.inl (some (.int (-900001)))) (hp I A L O)) (h2 : usC (A 4) 6 ≤ 3 → ¬ isRk (nI (tAll I A L 0).1.1) r → Q (.inl (some (.int (-900002)))) (hp (va_up (va_up (va_up I 10 (nI (tAll I A L 0).1.1)) 8 (tAll I A L 0).2.1) 9 (tAll I A L 0).2.2) A (va_up L 17 (tAll I A L 0).1.2) O)) (h0 : usC (A 4) 6 ≤ 3 → isRk (nI (tAll I A L 0).1.1) r → Q (.inl (some (.int ((p_cost (f_place (nI (tAll I A L 0).1.1) (tAll I A L 0).1.2 r)))))) (hp (va_up (va_up (va_up I 10 (nI (tAll I A L 0).1.1)) 8 (tAll I A L 0).2.1) 9 (tAll I A L 0).2.2) A (va_up L 17 (tAll I A L 0).1.2) O)) : Call X 125 [.ref 1, .int r] (hp I A L O) Q := by
  refine call_ofH (by decide) (by decide) rfl ?_
  refine a_aload_n (i := 0) q125_0 rfl rfl ?_
  refine a_iload_n (i := 1) q125_1 rfl rfl ?_
  refine a_callVH (as := [_]) q125_2 rfl rfl rfl ⟨rfl, rfl⟩ rfl ?_
  refine c_X9_costByTrying  (h1 := fun y0 => ?_) (h2 := fun y0 y1 => ?_) (h0 := fun y0 y1 => ?_)
  · skip
    refine ⟨(5, 6, 2, 1), by decide, rfl, ?_⟩
    refine a_ldc1 (v := (-900001)) q125_7 (by decide) ?_
    refine a_ireturn q125_9 (nr_int rfl _) ?_
    exact h1 y0
  · skip
    refine ⟨(4, 10, 2, 1), by decide, rfl, ?_⟩
    refine a_ldc1 (v := (-900002)) q125_11 (by decide) ?_
    refine a_ireturn q125_13 (nr_int rfl _) ?_
    exact h2 y0 y1
  · skip
    refine hk_r ?_
    refine a_ireturn q125_5 (nr_int rfl _) ?_
    exact h0 y0 y1

theorem c_L_mark {X : XS} {I : Nat → Int32} {A : Nat → Nat → Int32} {L : Nat → Nat → Int64} {O : AH} {Q : AO → AH → Prop} {r : Int32} {k : Nat} (hk : I 7 = nI k) (hk5 : k ≤ 5) (h1 : ¬ isRk (nI (rkB I A L).1) r → Q (.inl (some (.int (-900001)))) (hp (va_up (va_up I 6 0) 7 (nI (rkB I A L).1)) A (va_up L 14 (rkB I A L).2) O)) (h0 : isRk (nI (rkB I A L).1) r → Q (.inl (some (.int ((g_mark (p_chart (f_place (nI (rkB I A L).1) (rkB I A L).2 r))))))) (hp (va_up (va_up I 6 0) 7 (nI (rkB I A L).1)) A (va_up L 14 (rkB I A L).2) O)) : Call X 126 [.ref 1, .int r] (hp I A L O) Q := by
  refine call_ofH (by decide) (by decide) rfl ?_
  refine a_aload_n (i := 0) q126_0 rfl rfl ?_
  refine a_iload_n (i := 1) q126_1 rfl rfl ?_
  refine a_callVH (as := [_]) q126_2 rfl rfl rfl ⟨rfl, rfl⟩ rfl ?_
  refine c_X9_mark (hk := hk) (hk5 := hk5) (h1 := fun y0 => ?_) (h0 := fun y0 => ?_)
  · skip
    refine ⟨(4, 6, 2, 1), by decide, rfl, ?_⟩
    refine a_ldc1 (v := (-900001)) q126_7 (by decide) ?_
    refine a_ireturn q126_9 (nr_int rfl _) ?_
    exact h1 y0
  · skip
    refine hk_r ?_
    refine a_ireturn q126_5 (nr_int rfl _) ?_
    exact h0 y0

theorem c_L_aggregate {X : XS} {I : Nat → Int32} {A : Nat → Nat → Int32} {L : Nat → Nat → Int64} {O : AH} {Q : AO → AH → Prop} {r : Int32} {k : Nat} (hk : I 7 = nI k) (hk5 : k ≤ 5) (h1 : ¬ isRk (nI (rkB I A L).1) r → Q (.inl (some (.int (-900001)))) (hp (va_up (va_up I 6 0) 7 (nI (rkB I A L).1)) A (va_up L 14 (rkB I A L).2) O)) (h0 : isRk (nI (rkB I A L).1) r → Q (.inl (some (.int ((g_agg (p_chart (f_place (nI (rkB I A L).1) (rkB I A L).2 r))))))) (hp (va_up (va_up I 6 0) 7 (nI (rkB I A L).1)) A (va_up L 14 (rkB I A L).2) O)) : Call X 127 [.ref 1, .int r] (hp I A L O) Q := by
  refine call_ofH (by decide) (by decide) rfl ?_
  refine a_aload_n (i := 0) q127_0 rfl rfl ?_
  refine a_iload_n (i := 1) q127_1 rfl rfl ?_
  refine a_callVH (as := [_]) q127_2 rfl rfl rfl ⟨rfl, rfl⟩ rfl ?_
  refine c_X9_aggregate (hk := hk) (hk5 := hk5) (h1 := fun y0 => ?_) (h0 := fun y0 => ?_)
  · skip
    refine ⟨(4, 6, 2, 1), by decide, rfl, ?_⟩
    refine a_ldc1 (v := (-900001)) q127_7 (by decide) ?_
    refine a_ireturn q127_9 (nr_int rfl _) ?_
    exact h1 y0
  · skip
    refine hk_r ?_
    refine a_ireturn q127_5 (nr_int rfl _) ?_
    exact h0 y0

theorem c_L_column {X : XS} {I : Nat → Int32} {A : Nat → Nat → Int32} {L : Nat → Nat → Int64} {O : AH} {Q : AO → AH → Prop} {r c : Int32} {k : Nat} (hk : I 7 = nI k) (hk5 : k ≤ 5) (h1 : ¬ isRk (nI (rkB I A L).1) r → Q (.inl (some (.int (-900001)))) (hp (va_up (va_up I 6 0) 7 (nI (rkB I A L).1)) A (va_up L 14 (rkB I A L).2) O)) (h2 : isRk (nI (rkB I A L).1) r → ¬ isChan c → Q (.inl (some (.int (-900002)))) (hp (va_up (va_up I 6 0) 7 (nI (rkB I A L).1)) A (va_up L 14 (rkB I A L).2) O)) (h0 : isRk (nI (rkB I A L).1) r → isChan c → Q (.inl (some (.int ((g_col (p_chart (f_place (nI (rkB I A L).1) (rkB I A L).2 r)) c))))) (hp (va_up (va_up I 6 0) 7 (nI (rkB I A L).1)) A (va_up L 14 (rkB I A L).2) O)) : Call X 128 [.ref 1, .int r, .int c] (hp I A L O) Q := by
  refine call_ofH (by decide) (by decide) rfl ?_
  refine a_aload_n (i := 0) q128_0 rfl rfl ?_
  refine a_iload_n (i := 1) q128_1 rfl rfl ?_
  refine a_iload_n (i := 2) q128_2 rfl rfl ?_
  refine a_callVH (as := [_, _]) q128_3 rfl rfl rfl ⟨rfl, rfl⟩ rfl ?_
  refine c_X9_column (hk := hk) (hk5 := hk5) (h1 := fun y0 => ?_) (h2 := fun y0 y1 => ?_) (h0 := fun y0 y1 => ?_)
  · skip
    refine ⟨(4, 7, 3, 1), by decide, rfl, ?_⟩
    refine a_ldc1 (v := (-900001)) q128_8 (by decide) ?_
    refine a_ireturn q128_10 (nr_int rfl _) ?_
    exact h1 y0
  · skip
    refine ⟨(2, 11, 3, 1), by decide, rfl, ?_⟩
    refine a_ldc1 (v := (-900002)) q128_12 (by decide) ?_
    refine a_ireturn q128_14 (nr_int rfl _) ?_
    exact h2 y0 y1
  · skip
    refine hk_r ?_
    refine a_ireturn q128_6 (nr_int rfl _) ?_
    exact h0 y0 y1
