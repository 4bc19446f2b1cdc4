/-! the law's calls: the class's half -/
theorem a_scr {X : XS} {mi pc : Nat} {lv : List (Nat × Value)} {rest : List Value} {h : AH} {bc bs : Nat} {Q : AO → AH → Prop} {k : Nat} {i : Int32} (d : decode (mB mi) pc = .ok (.iaload, 1)) (e : i = nI k) (hk : k < X.1) (hX : X.1 ≤ 3584) (z : AW X mi (pc + 1) lv (.int (X.2 k) :: rest) h bc bs Q) : AW X mi pc lv (.int i :: .ref 1003 :: rest) h bc bs Q := by
  subst e
  refine a_iald_ro (j := 3) d rfl (by decide) (vp_in_nI hk (by show X.1 < 2 ^ 31; omega)) ?_
  rw [show (roT X 3).2.2 (nI k).toNatClampNeg = X.2 k from congrArg X.2 (nI_clamp (by omega))]; exact z
theorem a_dald0 {X : XS} {mi pc : Nat} {lv : List (Nat × Value)} {rest : List Value} {h : AH} {bc bs : Nat} {Q : AO → AH → Prop} {o : Nat} {f : Nat → UInt64} (d : decode (mB mi) pc = .ok (.daload, 1)) (ho : h[o]? = some (.inr (2, 1, .inr (.inr (.inr (.inl f)))))) (k : AW X mi (pc + 1) lv (.double (f 0) :: rest) h bc bs Q) : AW X mi pc lv (.int 0 :: .ref o :: rest) h bc bs Q := by
  refine a_dald d ho (nI_vp (n := 1) (j := 0) (by decide) (by decide)) ?_
  rw [show (0 : Int32).toNatClampNeg = 0 from by decide]; exact k
theorem AW.td {X : XS} {mi pc : Nat} {lv : List (Nat × Value)} {rest : List Value} {h : AH} {bc bs : Nat} {Q : AO → AH → Prop} {x y : UInt64} (e : x = y) (k : AW X mi pc lv (.double y :: rest) h bc bs Q) : AW X mi pc lv (.double x :: rest) h bc bs Q := e ▸ k
theorem opA_addRow {X : XS} {I : Nat → Int32} {A : Nat → Nat → Int32} {L : Nat → Nat → Int64} {O : Nat → UInt64} {Q : AO → AH → Prop} {ii bC bS : Nat} (hX : X.1 ≤ 3584) (hi : ii + 7 ≤ X.1) {n : Nat} (hn : I 2 = nI n) (hn40 : n ≤ 40) (h1 : ¬ (isVal (X.2 (ii + 1)) ∧ isVal (X.2 (ii + 2)) ∧ isVal (X.2 (ii + 3)) ∧ isVal (X.2 (ii + 4)) ∧ isVal (X.2 (ii + 5)) ∧ isVal (X.2 (ii + 6))) → AW X 234 256 [(0, .ref 1003), (1, .ref 0), (2, .ref 21), (3, .ref 35), (4, .ref 36), (5, .int (nI ii)), (6, .int 1)] [] (hp I A L O) (bC + 1) (bS + 1) Q) (h2 : (isVal (X.2 (ii + 1)) ∧ isVal (X.2 (ii + 2)) ∧ isVal (X.2 (ii + 3)) ∧ isVal (X.2 (ii + 4)) ∧ isVal (X.2 (ii + 5)) ∧ isVal (X.2 (ii + 6))) → 40 ≤ n → AW X 234 256 [(0, .ref 1003), (1, .ref 0), (2, .ref 21), (3, .ref 35), (4, .ref 36), (5, .int (nI ii)), (6, .int 2)] [] (hp I A L O) (bC + 1) (bS + 1) Q) (h3 : (isVal (X.2 (ii + 1)) ∧ isVal (X.2 (ii + 2)) ∧ isVal (X.2 (ii + 3)) ∧ isVal (X.2 (ii + 4)) ∧ isVal (X.2 (ii + 5)) ∧ isVal (X.2 (ii + 6))) → n < 40 → AW X 234 256 [(0, .ref 1003), (1, .ref 0), (2, .ref 21), (3, .ref 35), (4, .ref 36), (5, .int (nI ii)), (6, .int 0)] [] (hp (va_up (va_up I 2 (nI (n + 1))) 6 1) (stA (apA A n (X.2 (ii + 1)) (X.2 (ii + 2)) (X.2 (ii + 3)) (X.2 (ii + 4)) (X.2 (ii + 5)) (X.2 (ii + 6))) (n + 1) 6) (va_up (stL (apA A n (X.2 (ii + 1)) (X.2 (ii + 2)) (X.2 (ii + 3)) (X.2 (ii + 4)) (X.2 (ii + 5)) (X.2 (ii + 6))) L (n + 1) 6) 35 (vp_updL ((stL (apA A n (X.2 (ii + 1)) (X.2 (ii + 2)) (X.2 (ii + 3)) (X.2 (ii + 4)) (X.2 (ii + 5)) (X.2 (ii + 6))) L (n + 1) 6) 35) 0 ((nI (n + 1))).toInt64)) O) (bC + 1) (bS + 1) Q) : AW X 234 212 [(0, .ref 1003), (1, .ref 0), (2, .ref 21), (3, .ref 35), (4, .ref 36), (5, .int (nI ii))] [] (hp I A L O) (bC + 5) (bS + 25) Q := by
  refine a_aload_n (i := 1) q234_212 rfl rfl ?_
  refine a_aload_n (i := 0) q234_213 rfl rfl ?_
  refine a_iload q234_214 rfl ?_
  refine a_iconst (v := 1) q234_216 (by decide) ?_
  refine a_iadd q234_217 ?_
  refine a_scr (k := ii + 1) q234_218 (nI_add ii 1) (by omega) hX ?_
  refine a_aload_n (i := 0) q234_219 rfl rfl ?_
  refine a_iload q234_220 rfl ?_
  refine a_iconst (v := 2) q234_222 (by decide) ?_
  refine a_iadd q234_223 ?_
  refine a_scr (k := ii + 2) q234_224 (nI_add ii 2) (by omega) hX ?_
  refine a_aload_n (i := 0) q234_225 rfl rfl ?_
  refine a_iload q234_226 rfl ?_
  refine a_iconst (v := 3) q234_228 (by decide) ?_
  refine a_iadd q234_229 ?_
  refine a_scr (k := ii + 3) q234_230 (nI_add ii 3) (by omega) hX ?_
  refine a_aload_n (i := 0) q234_231 rfl rfl ?_
  refine a_iload q234_232 rfl ?_
  refine a_iconst (v := 4) q234_234 (by decide) ?_
  refine a_iadd q234_235 ?_
  refine a_scr (k := ii + 4) q234_236 (nI_add ii 4) (by omega) hX ?_
  refine a_aload_n (i := 0) q234_237 rfl rfl ?_
  refine a_iload q234_238 rfl ?_
  refine a_iconst (v := 5) q234_240 (by decide) ?_
  refine a_iadd q234_241 ?_
  refine a_scr (k := ii + 5) q234_242 (nI_add ii 5) (by omega) hX ?_
  refine a_aload_n (i := 0) q234_243 rfl rfl ?_
  refine a_iload q234_244 rfl ?_
  refine a_bipush (v := 6) q234_246 (by decide) ?_
  refine a_iadd q234_248 ?_
  refine a_scr (k := ii + 6) q234_249 (nI_add ii 6) (by omega) hX ?_
  refine a_aload_n (i := 3) q234_250 rfl rfl ?_
  refine a_callSW (as := [_, _, _, _, _, _, _, _]) q234_251 rfl rfl ⟨rfl, rfl⟩ rfl ?_
  refine c_L_addRow (hn := hn) (hn40 := hn40) (h1 := fun y0 => ?_) (h2 := fun y0 y1 => ?_) (h3 := fun y0 y1 => ?_)
  · skip
    refine ck_r ?_
    refine a_istore (i := 6) (lv' := [(0, _), (1, _), (2, _), (3, _), (4, _), (5, _), (6, _)]) q234_254 rfl rfl ?_
    exact AW.wide (bc' := bC + 1) (bs' := bS + 1) (show bC + 1 ≤ bC + 3 by omega) (show bS + 1 ≤ bS + 13 by omega) (AW.hp rfl (h1 y0))
  · skip
    refine ck_r ?_
    refine a_istore (i := 6) (lv' := [(0, _), (1, _), (2, _), (3, _), (4, _), (5, _), (6, _)]) q234_254 rfl rfl ?_
    exact AW.wide (bc' := bC + 1) (bs' := bS + 1) (show bC + 1 ≤ bC + 3 by omega) (show bS + 1 ≤ bS + 13 by omega) (AW.hp rfl (h2 y0 y1))
  · skip
    refine ck_r ?_
    refine a_istore (i := 6) (lv' := [(0, _), (1, _), (2, _), (3, _), (4, _), (5, _), (6, _)]) q234_254 rfl rfl ?_
    exact AW.wide (bc' := bC + 1) (bs' := bS + 1) (show bC + 1 ≤ bC + 3 by omega) (show bS + 1 ≤ bS + 13 by omega) (AW.hp rfl (h3 y0 y1))

theorem opA_dropRow {X : XS} {I : Nat → Int32} {A : Nat → Nat → Int32} {L : Nat → Nat → Int64} {O : Nat → UInt64} {Q : AO → AH → Prop} {ii bC bS : Nat} (hX : X.1 ≤ 3584) (hi : ii + 7 ≤ X.1) {n : Nat} (hn : I 2 = nI n) (hn40 : n ≤ 40) (h1 : ¬ isRow I (X.2 (ii + 1)) → AW X 234 343 [(0, .ref 1003), (1, .ref 0), (2, .ref 21), (3, .ref 35), (4, .ref 36), (5, .int (nI ii)), (6, .int 1)] [] (hp I A L O) (bC + 1) (bS + 1) Q) (h2 : ∀ j m, (X.2 (ii + 1)) = nI j → n = m + 1 → j ≤ m → AW X 234 343 [(0, .ref 1003), (1, .ref 0), (2, .ref 21), (3, .ref 35), (4, .ref 36), (5, .int (nI ii)), (6, .int 0)] [] (hp (va_up (va_up I 2 (nI m)) 6 1) (stA (remT A j (m - j) 6) m 6) (va_up (stL (remT A j (m - j) 6) L m 6) 35 (vp_updL ((stL (remT A j (m - j) 6) L m 6) 35) 0 ((nI m)).toInt64)) O) (bC + 1) (bS + 1) Q) : AW X 234 330 [(0, .ref 1003), (1, .ref 0), (2, .ref 21), (3, .ref 35), (4, .ref 36), (5, .int (nI ii))] [] (hp I A L O) (bC + 5) (bS + 25) Q := by
  refine a_aload_n (i := 1) q234_330 rfl rfl ?_
  refine a_aload_n (i := 0) q234_331 rfl rfl ?_
  refine a_iload q234_332 rfl ?_
  refine a_iconst (v := 1) q234_334 (by decide) ?_
  refine a_iadd q234_335 ?_
  refine a_scr (k := ii + 1) q234_336 (nI_add ii 1) (by omega) hX ?_
  refine a_aload_n (i := 3) q234_337 rfl rfl ?_
  refine a_callSW (as := [_, _, _]) q234_338 rfl rfl ⟨rfl, rfl⟩ rfl ?_
  refine c_L_dropRow (hn := hn) (hn40 := hn40) (h1 := fun y0 => ?_) (h2 := fun j m y2 y3 y4 => ?_)
  · skip
    refine ck_r ?_
    refine a_istore (i := 6) (lv' := [(0, _), (1, _), (2, _), (3, _), (4, _), (5, _), (6, _)]) q234_341 rfl rfl ?_
    exact AW.wide (bc' := bC + 1) (bs' := bS + 1) (show bC + 1 ≤ bC + 4 by omega) (show bS + 1 ≤ bS + 19 by omega) (AW.hp rfl (h1 y0))
  · skip
    refine ck_r ?_
    refine a_istore (i := 6) (lv' := [(0, _), (1, _), (2, _), (3, _), (4, _), (5, _), (6, _)]) q234_341 rfl rfl ?_
    exact AW.wide (bc' := bC + 1) (bs' := bS + 1) (show bC + 1 ≤ bC + 4 by omega) (show bS + 1 ≤ bS + 19 by omega) (AW.hp rfl (h2 j m y2 y3 y4))

theorem opA_put {X : XS} {I : Nat → Int32} {A : Nat → Nat → Int32} {L : Nat → Nat → Int64} {O : Nat → UInt64} {Q : AO → AH → Prop} {ii bC bS : Nat} (hX : X.1 ≤ 3584) (hi : ii + 7 ≤ X.1) {n : Nat} (hn : I 2 = nI n) (hn40 : n ≤ 40) (h1 : ¬ (isRow I (X.2 (ii + 1)) ∧ isCol (X.2 (ii + 2))) → AW X 234 411 [(0, .ref 1003), (1, .ref 0), (2, .ref 21), (3, .ref 35), (4, .ref 36), (5, .int (nI ii)), (6, .int 1)] [] (hp I A L O) (bC + 1) (bS + 1) Q) (h2 : isRow I (X.2 (ii + 1)) ∧ isCol (X.2 (ii + 2)) → ¬ isVal (X.2 (ii + 3)) → AW X 234 411 [(0, .ref 1003), (1, .ref 0), (2, .ref 21), (3, .ref 35), (4, .ref 36), (5, .int (nI ii)), (6, .int 2)] [] (hp I A L O) (bC + 1) (bS + 1) Q) (h3 : ∀ j k, j < n → k < 6 → (X.2 (ii + 1)) = nI j → (X.2 (ii + 2)) = nI k → isVal (X.2 (ii + 3)) → AW X 234 411 [(0, .ref 1003), (1, .ref 0), (2, .ref 21), (3, .ref 35), (4, .ref 36), (5, .int (nI ii)), (6, .int 0)] [] (hp (va_up I 6 1) (studyA (st1 A k j (X.2 (ii + 3))) k n) (va_up (studyL (st1 A k j (X.2 (ii + 3))) L k n) 35 (vp_updL ((studyL (st1 A k j (X.2 (ii + 3))) L k n) 35) 0 ((cv A k j)).toInt64)) O) (bC + 1) (bS + 1) Q) : AW X 234 386 [(0, .ref 1003), (1, .ref 0), (2, .ref 21), (3, .ref 35), (4, .ref 36), (5, .int (nI ii))] [] (hp I A L O) (bC + 5) (bS + 25) Q := by
  refine a_aload_n (i := 1) q234_386 rfl rfl ?_
  refine a_aload_n (i := 0) q234_387 rfl rfl ?_
  refine a_iload q234_388 rfl ?_
  refine a_iconst (v := 1) q234_390 (by decide) ?_
  refine a_iadd q234_391 ?_
  refine a_scr (k := ii + 1) q234_392 (nI_add ii 1) (by omega) hX ?_
  refine a_aload_n (i := 0) q234_393 rfl rfl ?_
  refine a_iload q234_394 rfl ?_
  refine a_iconst (v := 2) q234_396 (by decide) ?_
  refine a_iadd q234_397 ?_
  refine a_scr (k := ii + 2) q234_398 (nI_add ii 2) (by omega) hX ?_
  refine a_aload_n (i := 0) q234_399 rfl rfl ?_
  refine a_iload q234_400 rfl ?_
  refine a_iconst (v := 3) q234_402 (by decide) ?_
  refine a_iadd q234_403 ?_
  refine a_scr (k := ii + 3) q234_404 (nI_add ii 3) (by omega) hX ?_
  refine a_aload_n (i := 3) q234_405 rfl rfl ?_
  refine a_callSW (as := [_, _, _, _, _]) q234_406 rfl rfl ⟨rfl, rfl⟩ rfl ?_
  refine c_L_put (hn := hn) (hn40 := hn40) (h1 := fun y0 => ?_) (h2 := fun y0 y1 => ?_) (h3 := fun j k y2 y3 y4 y5 y6 => ?_)
  · skip
    refine ck_r ?_
    refine a_istore (i := 6) (lv' := [(0, _), (1, _), (2, _), (3, _), (4, _), (5, _), (6, _)]) q234_409 rfl rfl ?_
    exact AW.wide (bc' := bC + 1) (bs' := bS + 1) (show bC + 1 ≤ bC + 3 by omega) (show bS + 1 ≤ bS + 13 by omega) (AW.hp rfl (h1 y0))
  · skip
    refine ck_r ?_
    refine a_istore (i := 6) (lv' := [(0, _), (1, _), (2, _), (3, _), (4, _), (5, _), (6, _)]) q234_409 rfl rfl ?_
    exact AW.wide (bc' := bC + 1) (bs' := bS + 1) (show bC + 1 ≤ bC + 3 by omega) (show bS + 1 ≤ bS + 13 by omega) (AW.hp rfl (h2 y0 y1))
  · skip
    refine ck_r ?_
    refine a_istore (i := 6) (lv' := [(0, _), (1, _), (2, _), (3, _), (4, _), (5, _), (6, _)]) q234_409 rfl rfl ?_
    exact AW.wide (bc' := bC + 1) (bs' := bS + 1) (show bC + 1 ≤ bC + 3 by omega) (show bS + 1 ≤ bS + 13 by omega) (AW.hp rfl (h3 j k y2 y3 y4 y5 y6))

theorem opA_rows {X : XS} {I : Nat → Int32} {A : Nat → Nat → Int32} {L : Nat → Nat → Int64} {O : Nat → UInt64} {Q : AO → AH → Prop} {ii bC bS : Nat} (hX : X.1 ≤ 3584) (hi : ii + 7 ≤ X.1)  (hq : AW X 234 470 [(0, .ref 1003), (1, .ref 0), (2, .ref 21), (3, .ref 35), (4, .ref 36), (5, .int (nI ii))] [.int (I 2)] (hp I A L O) (bC + 1) (bS + 1) Q) : AW X 234 466 [(0, .ref 1003), (1, .ref 0), (2, .ref 21), (3, .ref 35), (4, .ref 36), (5, .int (nI ii))] [] (hp I A L O) (bC + 5) (bS + 25) Q := by
  refine a_aload_n (i := 1) q234_466 rfl rfl ?_
  refine a_cv0 q234_467 rfl rfl ⟨rfl, rfl⟩ rfl ?_
  refine c_X9_rows  (hq := ?_)
  · skip
    refine ck_r ?_
    exact AW.wide (bc' := bC + 1) (bs' := bS + 1) (show bC + 1 ≤ bC + 5 by omega) (show bS + 1 ≤ bS + 25 by omega) (AW.hp rfl (hq))

theorem opA_different {X : XS} {I : Nat → Int32} {A : Nat → Nat → Int32} {L : Nat → Nat → Int64} {O : Nat → UInt64} {Q : AO → AH → Prop} {ii bC bS : Nat} (hX : X.1 ≤ 3584) (hi : ii + 7 ≤ X.1)  (h0 : isCol (X.2 (ii + 1)) → AW X 234 492 [(0, .ref 1003), (1, .ref 0), (2, .ref 21), (3, .ref 35), (4, .ref 36), (5, .int (nI ii)), (6, .int 0)] [] (hp I A (va_up L 35 (vp_updL (L 35) 0 ((f_differentIn A (X.2 (ii + 1)))).toInt64)) O) (bC + 1) (bS + 1) Q) (h1 : ¬ isCol (X.2 (ii + 1)) → AW X 234 492 [(0, .ref 1003), (1, .ref 0), (2, .ref 21), (3, .ref 35), (4, .ref 36), (5, .int (nI ii)), (6, .int 1)] [] (hp I A L O) (bC + 1) (bS + 1) Q) : AW X 234 479 [(0, .ref 1003), (1, .ref 0), (2, .ref 21), (3, .ref 35), (4, .ref 36), (5, .int (nI ii))] [] (hp I A L O) (bC + 5) (bS + 25) Q := by
  refine a_aload_n (i := 1) q234_479 rfl rfl ?_
  refine a_aload_n (i := 0) q234_480 rfl rfl ?_
  refine a_iload q234_481 rfl ?_
  refine a_iconst (v := 1) q234_483 (by decide) ?_
  refine a_iadd q234_484 ?_
  refine a_scr (k := ii + 1) q234_485 (nI_add ii 1) (by omega) hX ?_
  refine a_aload_n (i := 3) q234_486 rfl rfl ?_
  refine a_callSW (as := [_, _, _]) q234_487 rfl rfl ⟨rfl, rfl⟩ rfl ?_
  refine c_L_different  (h0 := fun y0 => ?_) (h1 := fun y0 => ?_)
  · skip
    refine ck_r ?_
    refine a_istore (i := 6) (lv' := [(0, _), (1, _), (2, _), (3, _), (4, _), (5, _), (6, _)]) q234_490 rfl rfl ?_
    exact AW.wide (bc' := bC + 1) (bs' := bS + 1) (show bC + 1 ≤ bC + 4 by omega) (show bS + 1 ≤ bS + 19 by omega) (AW.hp rfl (h0 y0))
  · skip
    refine ck_r ?_
    refine a_istore (i := 6) (lv' := [(0, _), (1, _), (2, _), (3, _), (4, _), (5, _), (6, _)]) q234_490 rfl rfl ?_
    exact AW.wide (bc' := bC + 1) (bs' := bS + 1) (show bC + 1 ≤ bC + 4 by omega) (show bS + 1 ≤ bS + 19 by omega) (AW.hp rfl (h1 y0))

theorem opA_sumOf {X : XS} {I : Nat → Int32} {A : Nat → Nat → Int32} {L : Nat → Nat → Int64} {O : Nat → UInt64} {Q : AO → AH → Prop} {ii bC bS : Nat} (hX : X.1 ≤ 3584) (hi : ii + 7 ≤ X.1)  (h0 : isCol (X.2 (ii + 1)) → AW X 234 548 [(0, .ref 1003), (1, .ref 0), (2, .ref 21), (3, .ref 35), (4, .ref 36), (5, .int (nI ii)), (6, .int 0)] [] (hp I A (va_up L 35 (vp_updL (L 35) 0 (f_sumIn L (X.2 (ii + 1))))) O) (bC + 1) (bS + 1) Q) (h1 : ¬ isCol (X.2 (ii + 1)) → AW X 234 548 [(0, .ref 1003), (1, .ref 0), (2, .ref 21), (3, .ref 35), (4, .ref 36), (5, .int (nI ii)), (6, .int 1)] [] (hp I A L O) (bC + 1) (bS + 1) Q) : AW X 234 535 [(0, .ref 1003), (1, .ref 0), (2, .ref 21), (3, .ref 35), (4, .ref 36), (5, .int (nI ii))] [] (hp I A L O) (bC + 5) (bS + 25) Q := by
  refine a_aload_n (i := 1) q234_535 rfl rfl ?_
  refine a_aload_n (i := 0) q234_536 rfl rfl ?_
  refine a_iload q234_537 rfl ?_
  refine a_iconst (v := 1) q234_539 (by decide) ?_
  refine a_iadd q234_540 ?_
  refine a_scr (k := ii + 1) q234_541 (nI_add ii 1) (by omega) hX ?_
  refine a_aload_n (i := 3) q234_542 rfl rfl ?_
  refine a_callSW (as := [_, _, _]) q234_543 rfl rfl ⟨rfl, rfl⟩ rfl ?_
  refine c_L_sumOf  (h0 := fun y0 => ?_) (h1 := fun y0 => ?_)
  · skip
    refine ck_r ?_
    refine a_istore (i := 6) (lv' := [(0, _), (1, _), (2, _), (3, _), (4, _), (5, _), (6, _)]) q234_546 rfl rfl ?_
    exact AW.wide (bc' := bC + 1) (bs' := bS + 1) (show bC + 1 ≤ bC + 4 by omega) (show bS + 1 ≤ bS + 19 by omega) (AW.hp rfl (h0 y0))
  · skip
    refine ck_r ?_
    refine a_istore (i := 6) (lv' := [(0, _), (1, _), (2, _), (3, _), (4, _), (5, _), (6, _)]) q234_546 rfl rfl ?_
    exact AW.wide (bc' := bC + 1) (bs' := bS + 1) (show bC + 1 ≤ bC + 4 by omega) (show bS + 1 ≤ bS + 19 by omega) (AW.hp rfl (h1 y0))

theorem opA_meanOf {X : XS} {I : Nat → Int32} {A : Nat → Nat → Int32} {L : Nat → Nat → Int64} {O : Nat → UInt64} {Q : AO → AH → Prop} {ii bC bS : Nat} (hX : X.1 ≤ 3584) (hi : ii + 7 ≤ X.1) (hne : isCol (X.2 (ii + 1)) → ¬ f_countIn A (X.2 (ii + 1)) = 0 → vf_n64 (FP.ddiv (FP.l2d (f_sumIn L (X.2 (ii + 1)))) (FP.i2d (f_countIn A (X.2 (ii + 1)))))) (h1 : ¬ isCol (X.2 (ii + 1)) → AW X 234 604 [(0, .ref 1003), (1, .ref 0), (2, .ref 21), (3, .ref 35), (4, .ref 36), (5, .int (nI ii)), (6, .int 1)] [] (hp I A L O) (bC + 1) (bS + 1) Q) (h2 : isCol (X.2 (ii + 1)) → f_countIn A (X.2 (ii + 1)) = 0 → AW X 234 604 [(0, .ref 1003), (1, .ref 0), (2, .ref 21), (3, .ref 35), (4, .ref 36), (5, .int (nI ii)), (6, .int 2)] [] (hp I A L O) (bC + 1) (bS + 1) Q) (h0 : isCol (X.2 (ii + 1)) → ¬ f_countIn A (X.2 (ii + 1)) = 0 → AW X 234 604 [(0, .ref 1003), (1, .ref 0), (2, .ref 21), (3, .ref 35), (4, .ref 36), (5, .int (nI ii)), (6, .int 0)] [] (hp I A L (vf_upd O 0 (FP.ddiv (FP.l2d (f_sumIn L (X.2 (ii + 1)))) (FP.i2d (f_countIn A (X.2 (ii + 1))))))) (bC + 1) (bS + 1) Q) : AW X 234 590 [(0, .ref 1003), (1, .ref 0), (2, .ref 21), (3, .ref 35), (4, .ref 36), (5, .int (nI ii))] [] (hp I A L O) (bC + 5) (bS + 25) Q := by
  refine a_aload_n (i := 1) q234_590 rfl rfl ?_
  refine a_aload_n (i := 0) q234_591 rfl rfl ?_
  refine a_iload q234_592 rfl ?_
  refine a_iconst (v := 1) q234_594 (by decide) ?_
  refine a_iadd q234_595 ?_
  refine a_scr (k := ii + 1) q234_596 (nI_add ii 1) (by omega) hX ?_
  refine a_aload q234_597 rfl ?_
  refine a_callSW (as := [_, _, _]) q234_599 rfl rfl ⟨rfl, rfl⟩ rfl ?_
  refine c_L_meanOf (hne := hne) (h1 := fun y0 => ?_) (h2 := fun y0 y1 => ?_) (h0 := fun y0 y1 => ?_)
  · skip
    refine ck_r ?_
    refine a_istore (i := 6) (lv' := [(0, _), (1, _), (2, _), (3, _), (4, _), (5, _), (6, _)]) q234_602 rfl rfl ?_
    exact AW.wide (bc' := bC + 1) (bs' := bS + 1) (show bC + 1 ≤ bC + 3 by omega) (show bS + 1 ≤ bS + 13 by omega) (AW.hp rfl (h1 y0))
  · skip
    refine ck_r ?_
    refine a_istore (i := 6) (lv' := [(0, _), (1, _), (2, _), (3, _), (4, _), (5, _), (6, _)]) q234_602 rfl rfl ?_
    exact AW.wide (bc' := bC + 1) (bs' := bS + 1) (show bC + 1 ≤ bC + 3 by omega) (show bS + 1 ≤ bS + 13 by omega) (AW.hp rfl (h2 y0 y1))
  · skip
    refine ck_r ?_
    refine a_istore (i := 6) (lv' := [(0, _), (1, _), (2, _), (3, _), (4, _), (5, _), (6, _)]) q234_602 rfl rfl ?_
    exact AW.wide (bc' := bC + 1) (bs' := bS + 1) (show bC + 1 ≤ bC + 3 by omega) (show bS + 1 ≤ bS + 13 by omega) (AW.hp rfl (h0 y0 y1))

theorem opA_filled {X : XS} {I : Nat → Int32} {A : Nat → Nat → Int32} {L : Nat → Nat → Int64} {O : Nat → UInt64} {Q : AO → AH → Prop} {ii bC bS : Nat} (hX : X.1 ≤ 3584) (hi : ii + 7 ≤ X.1) (hne : isCol (X.2 (ii + 1)) → ¬ I 2 = 0 → vf_n32 (FP.fdiv (FP.i2f (f_countIn A (X.2 (ii + 1)))) (FP.i2f (I 2)))) (hne2 : isCol (X.2 (ii + 1)) → ¬ I 2 = 0 → vf_n64 (FP.f2d (FP.fdiv (FP.i2f (f_countIn A (X.2 (ii + 1)))) (FP.i2f (I 2))))) (h1 : ¬ isCol (X.2 (ii + 1)) → AW X 234 681 [(0, .ref 1003), (1, .ref 0), (2, .ref 21), (3, .ref 35), (4, .ref 36), (5, .int (nI ii)), (6, .int 1)] [] (hp I A L O) (bC + 1) (bS + 1) Q) (h2 : isCol (X.2 (ii + 1)) → I 2 = 0 → AW X 234 681 [(0, .ref 1003), (1, .ref 0), (2, .ref 21), (3, .ref 35), (4, .ref 36), (5, .int (nI ii)), (6, .int 2)] [] (hp I A L O) (bC + 1) (bS + 1) Q) (h0 : isCol (X.2 (ii + 1)) → ¬ I 2 = 0 → AW X 234 681 [(0, .ref 1003), (1, .ref 0), (2, .ref 21), (3, .ref 35), (4, .ref 36), (5, .int (nI ii)), (6, .int 0)] [] (hp I A L (vf_upd O 0 (FP.f2d (FP.fdiv (FP.i2f (f_countIn A (X.2 (ii + 1)))) (FP.i2f (I 2)))))) (bC + 1) (bS + 1) Q) : AW X 234 667 [(0, .ref 1003), (1, .ref 0), (2, .ref 21), (3, .ref 35), (4, .ref 36), (5, .int (nI ii))] [] (hp I A L O) (bC + 5) (bS + 25) Q := by
  refine a_aload_n (i := 1) q234_667 rfl rfl ?_
  refine a_aload_n (i := 0) q234_668 rfl rfl ?_
  refine a_iload q234_669 rfl ?_
  refine a_iconst (v := 1) q234_671 (by decide) ?_
  refine a_iadd q234_672 ?_
  refine a_scr (k := ii + 1) q234_673 (nI_add ii 1) (by omega) hX ?_
  refine a_aload q234_674 rfl ?_
  refine a_callSW (as := [_, _, _]) q234_676 rfl rfl ⟨rfl, rfl⟩ rfl ?_
  refine c_L_filled (hne := hne) (hne2 := hne2) (h1 := fun y0 => ?_) (h2 := fun y0 y1 => ?_) (h0 := fun y0 y1 => ?_)
  · skip
    refine ck_r ?_
    refine a_istore (i := 6) (lv' := [(0, _), (1, _), (2, _), (3, _), (4, _), (5, _), (6, _)]) q234_679 rfl rfl ?_
    exact AW.wide (bc' := bC + 1) (bs' := bS + 1) (show bC + 1 ≤ bC + 3 by omega) (show bS + 1 ≤ bS + 13 by omega) (AW.hp rfl (h1 y0))
  · skip
    refine ck_r ?_
    refine a_istore (i := 6) (lv' := [(0, _), (1, _), (2, _), (3, _), (4, _), (5, _), (6, _)]) q234_679 rfl rfl ?_
    exact AW.wide (bc' := bC + 1) (bs' := bS + 1) (show bC + 1 ≤ bC + 3 by omega) (show bS + 1 ≤ bS + 13 by omega) (AW.hp rfl (h2 y0 y1))
  · skip
    refine ck_r ?_
    refine a_istore (i := 6) (lv' := [(0, _), (1, _), (2, _), (3, _), (4, _), (5, _), (6, _)]) q234_679 rfl rfl ?_
    exact AW.wide (bc' := bC + 1) (bs' := bS + 1) (show bC + 1 ≤ bC + 3 by omega) (show bS + 1 ≤ bS + 13 by omega) (AW.hp rfl (h0 y0 y1))

theorem opA_kindOf {X : XS} {I : Nat → Int32} {A : Nat → Nat → Int32} {L : Nat → Nat → Int64} {O : Nat → UInt64} {Q : AO → AH → Prop} {ii bC bS : Nat} (hX : X.1 ≤ 3584) (hi : ii + 7 ≤ X.1)  (h0 : isCol (X.2 (ii + 1)) → AW X 234 758 [(0, .ref 1003), (1, .ref 0), (2, .ref 21), (3, .ref 35), (4, .ref 36), (5, .int (nI ii)), (6, .int 0)] [] (hp I A (va_up L 35 (vp_updL (L 35) 0 ((f_kindAt A (X.2 (ii + 1)))).toInt64)) O) (bC + 1) (bS + 1) Q) (h1 : ¬ isCol (X.2 (ii + 1)) → AW X 234 758 [(0, .ref 1003), (1, .ref 0), (2, .ref 21), (3, .ref 35), (4, .ref 36), (5, .int (nI ii)), (6, .int 1)] [] (hp I A L O) (bC + 1) (bS + 1) Q) : AW X 234 745 [(0, .ref 1003), (1, .ref 0), (2, .ref 21), (3, .ref 35), (4, .ref 36), (5, .int (nI ii))] [] (hp I A L O) (bC + 5) (bS + 25) Q := by
  refine a_aload_n (i := 1) q234_745 rfl rfl ?_
  refine a_aload_n (i := 0) q234_746 rfl rfl ?_
  refine a_iload q234_747 rfl ?_
  refine a_iconst (v := 1) q234_749 (by decide) ?_
  refine a_iadd q234_750 ?_
  refine a_scr (k := ii + 1) q234_751 (nI_add ii 1) (by omega) hX ?_
  refine a_aload_n (i := 3) q234_752 rfl rfl ?_
  refine a_callSW (as := [_, _, _]) q234_753 rfl rfl ⟨rfl, rfl⟩ rfl ?_
  refine c_L_kindOf  (h0 := fun y0 => ?_) (h1 := fun y0 => ?_)
  · skip
    refine ck_r ?_
    refine a_istore (i := 6) (lv' := [(0, _), (1, _), (2, _), (3, _), (4, _), (5, _), (6, _)]) q234_756 rfl rfl ?_
    exact AW.wide (bc' := bC + 1) (bs' := bS + 1) (show bC + 1 ≤ bC + 4 by omega) (show bS + 1 ≤ bS + 19 by omega) (AW.hp rfl (h0 y0))
  · skip
    refine ck_r ?_
    refine a_istore (i := 6) (lv' := [(0, _), (1, _), (2, _), (3, _), (4, _), (5, _), (6, _)]) q234_756 rfl rfl ?_
    exact AW.wide (bc' := bC + 1) (bs' := bS + 1) (show bC + 1 ≤ bC + 4 by omega) (show bS + 1 ≤ bS + 19 by omega) (AW.hp rfl (h1 y0))

theorem opA_force {X : XS} {I : Nat → Int32} {A : Nat → Nat → Int32} {L : Nat → Nat → Int64} {O : Nat → UInt64} {Q : AO → AH → Prop} {ii bC bS : Nat} (hX : X.1 ≤ 3584) (hi : ii + 7 ≤ X.1) {n : Nat} (hn : I 2 = nI n) (hn40 : n ≤ 40) (h1 : ¬ isCol (X.2 (ii + 1)) → AW X 234 820 [(0, .ref 1003), (1, .ref 0), (2, .ref 21), (3, .ref 35), (4, .ref 36), (5, .int (nI ii)), (6, .int 1)] [] (hp I A L O) (bC + 1) (bS + 1) Q) (h2 : isCol (X.2 (ii + 1)) → ¬ ((X.2 (ii + 2)) = 2 ∨ (X.2 (ii + 2)) = 3 ∨ (X.2 (ii + 2)) = 4) → AW X 234 820 [(0, .ref 1003), (1, .ref 0), (2, .ref 21), (3, .ref 35), (4, .ref 36), (5, .int (nI ii)), (6, .int 2)] [] (hp I A L O) (bC + 1) (bS + 1) Q) (h3 : ∀ j, j < 6 → (X.2 (ii + 1)) = nI j → ((X.2 (ii + 2)) = 2 ∨ (X.2 (ii + 2)) = 3 ∨ (X.2 (ii + 2)) = 4) → AW X 234 820 [(0, .ref 1003), (1, .ref 0), (2, .ref 21), (3, .ref 35), (4, .ref 36), (5, .int (nI ii)), (6, .int 0)] [] (hp (va_up I 6 1) (studyA (va_up A 3 (upd (A 3) j (X.2 (ii + 2)))) j n) (va_up (studyL (va_up A 3 (upd (A 3) j (X.2 (ii + 2)))) L j n) 35 (vp_updL ((studyL (va_up A 3 (upd (A 3) j (X.2 (ii + 2)))) L j n) 35) 0 ((studyA (va_up A 3 (upd (A 3) j (X.2 (ii + 2)))) j n 4 j)).toInt64)) O) (bC + 1) (bS + 1) Q) : AW X 234 801 [(0, .ref 1003), (1, .ref 0), (2, .ref 21), (3, .ref 35), (4, .ref 36), (5, .int (nI ii))] [] (hp I A L O) (bC + 5) (bS + 25) Q := by
  refine a_aload_n (i := 1) q234_801 rfl rfl ?_
  refine a_aload_n (i := 0) q234_802 rfl rfl ?_
  refine a_iload q234_803 rfl ?_
  refine a_iconst (v := 1) q234_805 (by decide) ?_
  refine a_iadd q234_806 ?_
  refine a_scr (k := ii + 1) q234_807 (nI_add ii 1) (by omega) hX ?_
  refine a_aload_n (i := 0) q234_808 rfl rfl ?_
  refine a_iload q234_809 rfl ?_
  refine a_iconst (v := 2) q234_811 (by decide) ?_
  refine a_iadd q234_812 ?_
  refine a_scr (k := ii + 2) q234_813 (nI_add ii 2) (by omega) hX ?_
  refine a_aload_n (i := 3) q234_814 rfl rfl ?_
  refine a_callSW (as := [_, _, _, _]) q234_815 rfl rfl ⟨rfl, rfl⟩ rfl ?_
  refine c_L_force (hn := hn) (hn40 := hn40) (h1 := fun y0 => ?_) (h2 := fun y0 y1 => ?_) (h3 := fun j y1 y2 y3 => ?_)
  · skip
    refine ck_r ?_
    refine a_istore (i := 6) (lv' := [(0, _), (1, _), (2, _), (3, _), (4, _), (5, _), (6, _)]) q234_818 rfl rfl ?_
    exact AW.wide (bc' := bC + 1) (bs' := bS + 1) (show bC + 1 ≤ bC + 3 by omega) (show bS + 1 ≤ bS + 13 by omega) (AW.hp rfl (h1 y0))
  · skip
    refine ck_r ?_
    refine a_istore (i := 6) (lv' := [(0, _), (1, _), (2, _), (3, _), (4, _), (5, _), (6, _)]) q234_818 rfl rfl ?_
    exact AW.wide (bc' := bC + 1) (bs' := bS + 1) (show bC + 1 ≤ bC + 3 by omega) (show bS + 1 ≤ bS + 13 by omega) (AW.hp rfl (h2 y0 y1))
  · skip
    refine ck_r ?_
    refine a_istore (i := 6) (lv' := [(0, _), (1, _), (2, _), (3, _), (4, _), (5, _), (6, _)]) q234_818 rfl rfl ?_
    exact AW.wide (bc' := bC + 1) (bs' := bS + 1) (show bC + 1 ≤ bC + 3 by omega) (show bS + 1 ≤ bS + 13 by omega) (AW.hp rfl (h3 j y1 y2 y3))

theorem opA_unforce {X : XS} {I : Nat → Int32} {A : Nat → Nat → Int32} {L : Nat → Nat → Int64} {O : Nat → UInt64} {Q : AO → AH → Prop} {ii bC bS : Nat} (hX : X.1 ≤ 3584) (hi : ii + 7 ≤ X.1) {n : Nat} (hn : I 2 = nI n) (hn40 : n ≤ 40) (h1 : ¬ isCol (X.2 (ii + 1)) → AW X 234 882 [(0, .ref 1003), (1, .ref 0), (2, .ref 21), (3, .ref 35), (4, .ref 36), (5, .int (nI ii)), (6, .int 1)] [] (hp I A L O) (bC + 1) (bS + 1) Q) (h2 : ∀ j, j < 6 → (X.2 (ii + 1)) = nI j → A 3 j = -1 → AW X 234 882 [(0, .ref 1003), (1, .ref 0), (2, .ref 21), (3, .ref 35), (4, .ref 36), (5, .int (nI ii)), (6, .int 2)] [] (hp I A L O) (bC + 1) (bS + 1) Q) (h3 : ∀ j, j < 6 → (X.2 (ii + 1)) = nI j → ¬ A 3 j = -1 → AW X 234 882 [(0, .ref 1003), (1, .ref 0), (2, .ref 21), (3, .ref 35), (4, .ref 36), (5, .int (nI ii)), (6, .int 0)] [] (hp (va_up I 6 1) (studyA (va_up A 3 (upd (A 3) j (-1))) j n) (va_up (studyL (va_up A 3 (upd (A 3) j (-1))) L j n) 35 (vp_updL ((studyL (va_up A 3 (upd (A 3) j (-1))) L j n) 35) 0 ((studyA (va_up A 3 (upd (A 3) j (-1))) j n 4 j)).toInt64)) O) (bC + 1) (bS + 1) Q) : AW X 234 869 [(0, .ref 1003), (1, .ref 0), (2, .ref 21), (3, .ref 35), (4, .ref 36), (5, .int (nI ii))] [] (hp I A L O) (bC + 5) (bS + 25) Q := by
  refine a_aload_n (i := 1) q234_869 rfl rfl ?_
  refine a_aload_n (i := 0) q234_870 rfl rfl ?_
  refine a_iload q234_871 rfl ?_
  refine a_iconst (v := 1) q234_873 (by decide) ?_
  refine a_iadd q234_874 ?_
  refine a_scr (k := ii + 1) q234_875 (nI_add ii 1) (by omega) hX ?_
  refine a_aload_n (i := 3) q234_876 rfl rfl ?_
  refine a_callSW (as := [_, _, _]) q234_877 rfl rfl ⟨rfl, rfl⟩ rfl ?_
  refine c_L_unforce (hn := hn) (hn40 := hn40) (h1 := fun y0 => ?_) (h2 := fun j y1 y2 y3 => ?_) (h3 := fun j y1 y2 y3 => ?_)
  · skip
    refine ck_r ?_
    refine a_istore (i := 6) (lv' := [(0, _), (1, _), (2, _), (3, _), (4, _), (5, _), (6, _)]) q234_880 rfl rfl ?_
    exact AW.wide (bc' := bC + 1) (bs' := bS + 1) (show bC + 1 ≤ bC + 3 by omega) (show bS + 1 ≤ bS + 13 by omega) (AW.hp rfl (h1 y0))
  · skip
    refine ck_r ?_
    refine a_istore (i := 6) (lv' := [(0, _), (1, _), (2, _), (3, _), (4, _), (5, _), (6, _)]) q234_880 rfl rfl ?_
    exact AW.wide (bc' := bC + 1) (bs' := bS + 1) (show bC + 1 ≤ bC + 3 by omega) (show bS + 1 ≤ bS + 13 by omega) (AW.hp rfl (h2 j y1 y2 y3))
  · skip
    refine ck_r ?_
    refine a_istore (i := 6) (lv' := [(0, _), (1, _), (2, _), (3, _), (4, _), (5, _), (6, _)]) q234_880 rfl rfl ?_
    exact AW.wide (bc' := bC + 1) (bs' := bS + 1) (show bC + 1 ≤ bC + 3 by omega) (show bS + 1 ≤ bS + 13 by omega) (AW.hp rfl (h3 j y1 y2 y3))

theorem opA_wish {X : XS} {I : Nat → Int32} {A : Nat → Nat → Int32} {L : Nat → Nat → Int64} {O : Nat → UInt64} {Q : AO → AH → Prop} {ii bC bS : Nat} (hX : X.1 ≤ 3584) (hi : ii + 7 ≤ X.1)  (h1 : ¬ isCol (X.2 (ii + 1)) → AW X 234 952 [(0, .ref 1003), (1, .ref 0), (2, .ref 21), (3, .ref 35), (4, .ref 36), (5, .int (nI ii)), (6, .int 1)] [] (hp I A L O) (bC + 1) (bS + 1) Q) (h0 : isCol (X.2 (ii + 1)) → AW X 234 952 [(0, .ref 1003), (1, .ref 0), (2, .ref 21), (3, .ref 35), (4, .ref 36), (5, .int (nI ii)), (6, .int 0)] [] (hp (va_up (va_up I 6 1) 3 (g_wish (I 3) (X.2 (ii + 1)) (b2i (¬ (X.2 (ii + 2)) = 0)))) A (va_up L 35 (vp_updL (L 35) 0 ((g_bc (g_wish (I 3) (X.2 (ii + 1)) (b2i (¬ (X.2 (ii + 2)) = 0))))).toInt64)) O) (bC + 1) (bS + 1) Q) : AW X 234 925 [(0, .ref 1003), (1, .ref 0), (2, .ref 21), (3, .ref 35), (4, .ref 36), (5, .int (nI ii))] [] (hp I A L O) (bC + 5) (bS + 25) Q := by
  refine a_aload_n (i := 1) q234_925 rfl rfl ?_
  refine a_aload_n (i := 0) q234_926 rfl rfl ?_
  refine a_iload q234_927 rfl ?_
  refine a_iconst (v := 1) q234_929 (by decide) ?_
  refine a_iadd q234_930 ?_
  refine a_scr (k := ii + 1) q234_931 (nI_add ii 1) (by omega) hX ?_
  refine a_aload_n (i := 0) q234_932 rfl rfl ?_
  refine a_iload q234_933 rfl ?_
  refine a_iconst (v := 2) q234_935 (by decide) ?_
  refine a_iadd q234_936 ?_
  refine a_scr (k := ii + 2) q234_937 (nI_add ii 2) (by omega) hX ?_
  refine AW.cutS 946 (b2i (¬ (X.2 (ii + 2)) = 0)) (fun zk946 => ?_) ?_
  · skip
    refine a_if_eq (tgt := 945) q234_938 (by decide) (fun zc938 => ?_) (fun zc938 => ?_)
    · skip
      refine a_iconst (v := 0) q234_945 (by decide) ?_
      exact cutv zk946 (b2i_f (fun zz => zz zc938))
    · skip
      refine a_iconst (v := 1) q234_941 (by decide) ?_
      refine a_goto (tgt := 946) q234_942 (by decide) ?_
      exact cutv zk946 (b2i_t zc938)
  refine a_aload_n (i := 3) q234_946 rfl rfl ?_
  refine a_callSW (as := [_, _, _, _]) q234_947 rfl rfl ⟨rfl, rfl⟩ rfl ?_
  refine c_L_wish  (h1 := fun y0 => ?_) (h0 := fun y0 => ?_)
  · skip
    refine ck_r ?_
    refine a_istore (i := 6) (lv' := [(0, _), (1, _), (2, _), (3, _), (4, _), (5, _), (6, _)]) q234_950 rfl rfl ?_
    exact AW.wide (bc' := bC + 1) (bs' := bS + 1) (show bC + 1 ≤ bC + 4 by omega) (show bS + 1 ≤ bS + 19 by omega) (AW.hp rfl (h1 y0))
  · skip
    refine ck_r ?_
    refine a_istore (i := 6) (lv' := [(0, _), (1, _), (2, _), (3, _), (4, _), (5, _), (6, _)]) q234_950 rfl rfl ?_
    exact AW.wide (bc' := bC + 1) (bs' := bS + 1) (show bC + 1 ≤ bC + 4 by omega) (show bS + 1 ≤ bS + 19 by omega) (AW.hp rfl (h0 y0))

theorem opA_wishMark {X : XS} {I : Nat → Int32} {A : Nat → Nat → Int32} {L : Nat → Nat → Int64} {O : Nat → UInt64} {Q : AO → AH → Prop} {ii bC bS : Nat} (hX : X.1 ≤ 3584) (hi : ii + 7 ≤ X.1) (hm : narrow .char (.int (((X.2 (ii + 1)).toUInt32 % 65536).toInt32)) = .int (((X.2 (ii + 1)).toUInt32 % 65536).toInt32)) (hf : fits .char (.int (((X.2 (ii + 1)).toUInt32 % 65536).toInt32)) = true) (hn4 : narrow .char (.int (I 4)) = .int (I 4)) (h1 : ¬ isMk (((X.2 (ii + 1)).toUInt32 % 65536).toInt32) → ¬ (((X.2 (ii + 1)).toUInt32 % 65536).toInt32) = 45 → AW X 234 1023 [(0, .ref 1003), (1, .ref 0), (2, .ref 21), (3, .ref 35), (4, .ref 36), (5, .int (nI ii)), (6, .int 1)] [] (hp I A L O) (bC + 1) (bS + 1) Q) (h0 : (isMk (((X.2 (ii + 1)).toUInt32 % 65536).toInt32) ∨ (((X.2 (ii + 1)).toUInt32 % 65536).toInt32) = 45) → AW X 234 1023 [(0, .ref 1003), (1, .ref 0), (2, .ref 21), (3, .ref 35), (4, .ref 36), (5, .int (nI ii)), (6, .int 0)] [] (hp (va_up (va_up I 6 1) 4 (((X.2 (ii + 1)).toUInt32 % 65536).toInt32)) A (va_up L 35 (vp_updL (L 35) 0 ((I 4)).toInt64)) O) (bC + 1) (bS + 1) Q) : AW X 234 1009 [(0, .ref 1003), (1, .ref 0), (2, .ref 21), (3, .ref 35), (4, .ref 36), (5, .int (nI ii))] [] (hp I A L O) (bC + 5) (bS + 25) Q := by
  refine a_aload_n (i := 1) q234_1009 rfl rfl ?_
  refine a_aload_n (i := 0) q234_1010 rfl rfl ?_
  refine a_iload q234_1011 rfl ?_
  refine a_iconst (v := 1) q234_1013 (by decide) ?_
  refine a_iadd q234_1014 ?_
  refine a_scr (k := ii + 1) q234_1015 (nI_add ii 1) (by omega) hX ?_
  refine a_i2c q234_1016 ?_
  refine a_aload_n (i := 3) q234_1017 rfl rfl ?_
  refine a_callSW (as := [_, _, _]) q234_1018 rfl rfl ⟨rfl, rfl⟩ rfl ?_
  refine c_L_wishMark (hm := hm) (hf := hf) (hn4 := hn4) (h1 := fun y0 y1 => ?_) (h0 := fun y0 => ?_)
  · skip
    refine ck_r ?_
    refine a_istore (i := 6) (lv' := [(0, _), (1, _), (2, _), (3, _), (4, _), (5, _), (6, _)]) q234_1021 rfl rfl ?_
    exact AW.wide (bc' := bC + 1) (bs' := bS + 1) (show bC + 1 ≤ bC + 4 by omega) (show bS + 1 ≤ bS + 19 by omega) (AW.hp rfl (h1 y0 y1))
  · skip
    refine ck_r ?_
    refine a_istore (i := 6) (lv' := [(0, _), (1, _), (2, _), (3, _), (4, _), (5, _), (6, _)]) q234_1021 rfl rfl ?_
    exact AW.wide (bc' := bC + 1) (bs' := bS + 1) (show bC + 1 ≤ bC + 4 by omega) (show bS + 1 ≤ bS + 19 by omega) (AW.hp rfl (h0 y0))

theorem opA_forbid {X : XS} {I : Nat → Int32} {A : Nat → Nat → Int32} {L : Nat → Nat → Int64} {O : Nat → UInt64} {Q : AO → AH → Prop} {ii bC bS : Nat} (hX : X.1 ≤ 3584) (hi : ii + 7 ≤ X.1)  (h1 : ¬ (isCol (X.2 (ii + 1)) ∧ isChan (X.2 (ii + 2))) → AW X 234 1086 [(0, .ref 1003), (1, .ref 0), (2, .ref 21), (3, .ref 35), (4, .ref 36), (5, .int (nI ii)), (6, .int 1)] [] (hp I A L O) (bC + 1) (bS + 1) Q) (h2 : isCol (X.2 (ii + 1)) → isChan (X.2 (ii + 2)) → f_forb I (X.2 (ii + 1)) (X.2 (ii + 2)) → AW X 234 1086 [(0, .ref 1003), (1, .ref 0), (2, .ref 21), (3, .ref 35), (4, .ref 36), (5, .int (nI ii)), (6, .int 2)] [] (hp I A L O) (bC + 1) (bS + 1) Q) (h3 : isCol (X.2 (ii + 1)) → isChan (X.2 (ii + 2)) → ¬ f_forb I (X.2 (ii + 1)) (X.2 (ii + 2)) → AW X 234 1086 [(0, .ref 1003), (1, .ref 0), (2, .ref 21), (3, .ref 35), (4, .ref 36), (5, .int (nI ii)), (6, .int 0)] [] (hp (va_up (va_up I 6 1) 5 (g_turn (I 5) (X.2 (ii + 1)) (X.2 (ii + 2)))) A (va_up L 35 (vp_updL (L 35) 0 ((g_bc (g_turn (I 5) (X.2 (ii + 1)) (X.2 (ii + 2))))).toInt64)) O) (bC + 1) (bS + 1) Q) : AW X 234 1067 [(0, .ref 1003), (1, .ref 0), (2, .ref 21), (3, .ref 35), (4, .ref 36), (5, .int (nI ii))] [] (hp I A L O) (bC + 5) (bS + 25) Q := by
  refine a_aload_n (i := 1) q234_1067 rfl rfl ?_
  refine a_aload_n (i := 0) q234_1068 rfl rfl ?_
  refine a_iload q234_1069 rfl ?_
  refine a_iconst (v := 1) q234_1071 (by decide) ?_
  refine a_iadd q234_1072 ?_
  refine a_scr (k := ii + 1) q234_1073 (nI_add ii 1) (by omega) hX ?_
  refine a_aload_n (i := 0) q234_1074 rfl rfl ?_
  refine a_iload q234_1075 rfl ?_
  refine a_iconst (v := 2) q234_1077 (by decide) ?_
  refine a_iadd q234_1078 ?_
  refine a_scr (k := ii + 2) q234_1079 (nI_add ii 2) (by omega) hX ?_
  refine a_aload_n (i := 3) q234_1080 rfl rfl ?_
  refine a_callSW (as := [_, _, _, _]) q234_1081 rfl rfl ⟨rfl, rfl⟩ rfl ?_
  refine c_L_forbid  (h1 := fun y0 => ?_) (h2 := fun y0 y1 y2 => ?_) (h3 := fun y0 y1 y2 => ?_)
  · skip
    refine ck_r ?_
    refine a_istore (i := 6) (lv' := [(0, _), (1, _), (2, _), (3, _), (4, _), (5, _), (6, _)]) q234_1084 rfl rfl ?_
    exact AW.wide (bc' := bC + 1) (bs' := bS + 1) (show bC + 1 ≤ bC + 2 by omega) (show bS + 1 ≤ bS + 7 by omega) (AW.hp rfl (h1 y0))
  · skip
    refine ck_r ?_
    refine a_istore (i := 6) (lv' := [(0, _), (1, _), (2, _), (3, _), (4, _), (5, _), (6, _)]) q234_1084 rfl rfl ?_
    exact AW.wide (bc' := bC + 1) (bs' := bS + 1) (show bC + 1 ≤ bC + 2 by omega) (show bS + 1 ≤ bS + 7 by omega) (AW.hp rfl (h2 y0 y1 y2))
  · skip
    refine ck_r ?_
    refine a_istore (i := 6) (lv' := [(0, _), (1, _), (2, _), (3, _), (4, _), (5, _), (6, _)]) q234_1084 rfl rfl ?_
    exact AW.wide (bc' := bC + 1) (bs' := bS + 1) (show bC + 1 ≤ bC + 2 by omega) (show bS + 1 ≤ bS + 7 by omega) (AW.hp rfl (h3 y0 y1 y2))

theorem opA_allow {X : XS} {I : Nat → Int32} {A : Nat → Nat → Int32} {L : Nat → Nat → Int64} {O : Nat → UInt64} {Q : AO → AH → Prop} {ii bC bS : Nat} (hX : X.1 ≤ 3584) (hi : ii + 7 ≤ X.1)  (h1 : ¬ (isCol (X.2 (ii + 1)) ∧ isChan (X.2 (ii + 2))) → AW X 234 1154 [(0, .ref 1003), (1, .ref 0), (2, .ref 21), (3, .ref 35), (4, .ref 36), (5, .int (nI ii)), (6, .int 1)] [] (hp I A L O) (bC + 1) (bS + 1) Q) (h2 : isCol (X.2 (ii + 1)) → isChan (X.2 (ii + 2)) → ¬ f_forb I (X.2 (ii + 1)) (X.2 (ii + 2)) → AW X 234 1154 [(0, .ref 1003), (1, .ref 0), (2, .ref 21), (3, .ref 35), (4, .ref 36), (5, .int (nI ii)), (6, .int 2)] [] (hp I A L O) (bC + 1) (bS + 1) Q) (h3 : isCol (X.2 (ii + 1)) → isChan (X.2 (ii + 2)) → f_forb I (X.2 (ii + 1)) (X.2 (ii + 2)) → AW X 234 1154 [(0, .ref 1003), (1, .ref 0), (2, .ref 21), (3, .ref 35), (4, .ref 36), (5, .int (nI ii)), (6, .int 0)] [] (hp (va_up (va_up I 6 1) 5 (g_turn (I 5) (X.2 (ii + 1)) (X.2 (ii + 2)))) A (va_up L 35 (vp_updL (L 35) 0 ((g_bc (g_turn (I 5) (X.2 (ii + 1)) (X.2 (ii + 2))))).toInt64)) O) (bC + 1) (bS + 1) Q) : AW X 234 1135 [(0, .ref 1003), (1, .ref 0), (2, .ref 21), (3, .ref 35), (4, .ref 36), (5, .int (nI ii))] [] (hp I A L O) (bC + 5) (bS + 25) Q := by
  refine a_aload_n (i := 1) q234_1135 rfl rfl ?_
  refine a_aload_n (i := 0) q234_1136 rfl rfl ?_
  refine a_iload q234_1137 rfl ?_
  refine a_iconst (v := 1) q234_1139 (by decide) ?_
  refine a_iadd q234_1140 ?_
  refine a_scr (k := ii + 1) q234_1141 (nI_add ii 1) (by omega) hX ?_
  refine a_aload_n (i := 0) q234_1142 rfl rfl ?_
  refine a_iload q234_1143 rfl ?_
  refine a_iconst (v := 2) q234_1145 (by decide) ?_
  refine a_iadd q234_1146 ?_
  refine a_scr (k := ii + 2) q234_1147 (nI_add ii 2) (by omega) hX ?_
  refine a_aload_n (i := 3) q234_1148 rfl rfl ?_
  refine a_callSW (as := [_, _, _, _]) q234_1149 rfl rfl ⟨rfl, rfl⟩ rfl ?_
  refine c_L_allow  (h1 := fun y0 => ?_) (h2 := fun y0 y1 y2 => ?_) (h3 := fun y0 y1 y2 => ?_)
  · skip
    refine ck_r ?_
    refine a_istore (i := 6) (lv' := [(0, _), (1, _), (2, _), (3, _), (4, _), (5, _), (6, _)]) q234_1152 rfl rfl ?_
    exact AW.wide (bc' := bC + 1) (bs' := bS + 1) (show bC + 1 ≤ bC + 2 by omega) (show bS + 1 ≤ bS + 7 by omega) (AW.hp rfl (h1 y0))
  · skip
    refine ck_r ?_
    refine a_istore (i := 6) (lv' := [(0, _), (1, _), (2, _), (3, _), (4, _), (5, _), (6, _)]) q234_1152 rfl rfl ?_
    exact AW.wide (bc' := bC + 1) (bs' := bS + 1) (show bC + 1 ≤ bC + 2 by omega) (show bS + 1 ≤ bS + 7 by omega) (AW.hp rfl (h2 y0 y1 y2))
  · skip
    refine ck_r ?_
    refine a_istore (i := 6) (lv' := [(0, _), (1, _), (2, _), (3, _), (4, _), (5, _), (6, _)]) q234_1152 rfl rfl ?_
    exact AW.wide (bc' := bC + 1) (bs' := bS + 1) (show bC + 1 ≤ bC + 2 by omega) (show bS + 1 ≤ bS + 7 by omega) (AW.hp rfl (h3 y0 y1 y2))

theorem opA_setWeight {X : XS} {I : Nat → Int32} {A : Nat → Nat → Int32} {L : Nat → Nat → Int64} {O : Nat → UInt64} {Q : AO → AH → Prop} {ii bC bS : Nat} (hX : X.1 ≤ 3584) (hi : ii + 7 ≤ X.1)  (h1 : ¬ isRule (X.2 (ii + 1)) → AW X 234 1222 [(0, .ref 1003), (1, .ref 0), (2, .ref 21), (3, .ref 35), (4, .ref 36), (5, .int (nI ii)), (6, .int 1)] [] (hp I A L O) (bC + 1) (bS + 1) Q) (h2 : isRule (X.2 (ii + 1)) → ¬ (0 ≤ (X.2 (ii + 2)) ∧ (X.2 (ii + 2)) ≤ 99) → AW X 234 1222 [(0, .ref 1003), (1, .ref 0), (2, .ref 21), (3, .ref 35), (4, .ref 36), (5, .int (nI ii)), (6, .int 2)] [] (hp I A L O) (bC + 1) (bS + 1) Q) (h3 : ∀ j, j < 8 → (X.2 (ii + 1)) = nI j → (0 ≤ (X.2 (ii + 2)) ∧ (X.2 (ii + 2)) ≤ 99) → AW X 234 1222 [(0, .ref 1003), (1, .ref 0), (2, .ref 21), (3, .ref 35), (4, .ref 36), (5, .int (nI ii)), (6, .int 0)] [] (hp (va_up I 6 1) (va_up A 11 (upd (A 11) j (X.2 (ii + 2)))) (va_up L 35 (vp_updL (L 35) 0 ((A 11 j)).toInt64)) O) (bC + 1) (bS + 1) Q) : AW X 234 1203 [(0, .ref 1003), (1, .ref 0), (2, .ref 21), (3, .ref 35), (4, .ref 36), (5, .int (nI ii))] [] (hp I A L O) (bC + 5) (bS + 25) Q := by
  refine a_aload_n (i := 1) q234_1203 rfl rfl ?_
  refine a_aload_n (i := 0) q234_1204 rfl rfl ?_
  refine a_iload q234_1205 rfl ?_
  refine a_iconst (v := 1) q234_1207 (by decide) ?_
  refine a_iadd q234_1208 ?_
  refine a_scr (k := ii + 1) q234_1209 (nI_add ii 1) (by omega) hX ?_
  refine a_aload_n (i := 0) q234_1210 rfl rfl ?_
  refine a_iload q234_1211 rfl ?_
  refine a_iconst (v := 2) q234_1213 (by decide) ?_
  refine a_iadd q234_1214 ?_
  refine a_scr (k := ii + 2) q234_1215 (nI_add ii 2) (by omega) hX ?_
  refine a_aload_n (i := 3) q234_1216 rfl rfl ?_
  refine a_callSW (as := [_, _, _, _]) q234_1217 rfl rfl ⟨rfl, rfl⟩ rfl ?_
  refine c_L_setWeight  (h1 := fun y0 => ?_) (h2 := fun y0 y1 => ?_) (h3 := fun j y1 y2 y3 => ?_)
  · skip
    refine ck_r ?_
    refine a_istore (i := 6) (lv' := [(0, _), (1, _), (2, _), (3, _), (4, _), (5, _), (6, _)]) q234_1220 rfl rfl ?_
    exact AW.wide (bc' := bC + 1) (bs' := bS + 1) (show bC + 1 ≤ bC + 3 by omega) (show bS + 1 ≤ bS + 13 by omega) (AW.hp rfl (h1 y0))
  · skip
    refine ck_r ?_
    refine a_istore (i := 6) (lv' := [(0, _), (1, _), (2, _), (3, _), (4, _), (5, _), (6, _)]) q234_1220 rfl rfl ?_
    exact AW.wide (bc' := bC + 1) (bs' := bS + 1) (show bC + 1 ≤ bC + 3 by omega) (show bS + 1 ≤ bS + 13 by omega) (AW.hp rfl (h2 y0 y1))
  · skip
    refine ck_r ?_
    refine a_istore (i := 6) (lv' := [(0, _), (1, _), (2, _), (3, _), (4, _), (5, _), (6, _)]) q234_1220 rfl rfl ?_
    exact AW.wide (bc' := bC + 1) (bs' := bS + 1) (show bC + 1 ≤ bC + 3 by omega) (show bS + 1 ≤ bS + 13 by omega) (AW.hp rfl (h3 j y1 y2 y3))

theorem opA_allowed {X : XS} {I : Nat → Int32} {A : Nat → Nat → Int32} {L : Nat → Nat → Int64} {O : Nat → UInt64} {Q : AO → AH → Prop} {ii bC bS : Nat} (hX : X.1 ≤ 3584) (hi : ii + 7 ≤ X.1)  (hq : AW X 234 1275 [(0, .ref 1003), (1, .ref 0), (2, .ref 21), (3, .ref 35), (4, .ref 36), (5, .int (nI ii))] [.int (tAll I A L 0).2.1] (hp (va_up (va_up (va_up I 10 (nI (tAll I A L 0).1.1)) 8 (tAll I A L 0).2.1) 9 (tAll I A L 0).2.2) A (va_up L 17 (tAll I A L 0).1.2) O) (bC + 1) (bS + 1) Q) : AW X 234 1271 [(0, .ref 1003), (1, .ref 0), (2, .ref 21), (3, .ref 35), (4, .ref 36), (5, .int (nI ii))] [] (hp I A L O) (bC + 5) (bS + 25) Q := by
  refine a_aload_n (i := 1) q234_1271 rfl rfl ?_
  refine a_cv0 q234_1272 rfl rfl ⟨rfl, rfl⟩ rfl ?_
  refine c_X9_allowed  (hq := ?_)
  · skip
    refine ck_r ?_
    exact AW.wide (bc' := bC + 1) (bs' := bS + 1) (show bC + 1 ≤ bC + 5 by omega) (show bS + 1 ≤ bS + 25 by omega) (AW.hp rfl (hq))

theorem opA_cost {X : XS} {I : Nat → Int32} {A : Nat → Nat → Int32} {L : Nat → Nat → Int64} {O : Nat → UInt64} {Q : AO → AH → Prop} {ii bC bS : Nat} (hX : X.1 ≤ 3584) (hi : ii + 7 ≤ X.1) {k : Nat} (hk : I 7 = nI k) (hk5 : k ≤ 5) (h1 : ¬ isRk (nI (rkB I A L).1) (X.2 (ii + 1)) → AW X 234 1297 [(0, .ref 1003), (1, .ref 0), (2, .ref 21), (3, .ref 35), (4, .ref 36), (5, .int (nI ii)), (6, .int 1)] [] (hp (va_up (va_up I 6 0) 7 (nI (rkB I A L).1)) A (va_up L 14 (rkB I A L).2) O) (bC + 1) (bS + 1) Q) (h0 : isRk (nI (rkB I A L).1) (X.2 (ii + 1)) → AW X 234 1297 [(0, .ref 1003), (1, .ref 0), (2, .ref 21), (3, .ref 35), (4, .ref 36), (5, .int (nI ii)), (6, .int 0)] [] (hp (va_up (va_up I 6 0) 7 (nI (rkB I A L).1)) A (va_up (va_up L 14 (rkB I A L).2) 35 (vp_updL ((va_up L 14 (rkB I A L).2) 35) 0 ((p_cost (f_place (nI (rkB I A L).1) (rkB I A L).2 (X.2 (ii + 1))))).toInt64)) O) (bC + 1) (bS + 1) Q) : AW X 234 1284 [(0, .ref 1003), (1, .ref 0), (2, .ref 21), (3, .ref 35), (4, .ref 36), (5, .int (nI ii))] [] (hp I A L O) (bC + 5) (bS + 25) Q := by
  refine a_aload_n (i := 1) q234_1284 rfl rfl ?_
  refine a_aload_n (i := 0) q234_1285 rfl rfl ?_
  refine a_iload q234_1286 rfl ?_
  refine a_iconst (v := 1) q234_1288 (by decide) ?_
  refine a_iadd q234_1289 ?_
  refine a_scr (k := ii + 1) q234_1290 (nI_add ii 1) (by omega) hX ?_
  refine a_aload_n (i := 3) q234_1291 rfl rfl ?_
  refine a_callSW (as := [_, _, _]) q234_1292 rfl rfl ⟨rfl, rfl⟩ rfl ?_
  refine c_L_cost (hk := hk) (hk5 := hk5) (h1 := fun y0 => ?_) (h0 := fun y0 => ?_)
  · skip
    refine ck_r ?_
    refine a_istore (i := 6) (lv' := [(0, _), (1, _), (2, _), (3, _), (4, _), (5, _), (6, _)]) q234_1295 rfl rfl ?_
    exact AW.wide (bc' := bC + 1) (bs' := bS + 1) (show bC + 1 ≤ bC + 4 by omega) (show bS + 1 ≤ bS + 19 by omega) (AW.hp rfl (h1 y0))
  · skip
    refine ck_r ?_
    refine a_istore (i := 6) (lv' := [(0, _), (1, _), (2, _), (3, _), (4, _), (5, _), (6, _)]) q234_1295 rfl rfl ?_
    exact AW.wide (bc' := bC + 1) (bs' := bS + 1) (show bC + 1 ≤ bC + 4 by omega) (show bS + 1 ≤ bS + 19 by omega) (AW.hp rfl (h0 y0))

theorem opA_costByTrying {X : XS} {I : Nat → Int32} {A : Nat → Nat → Int32} {L : Nat → Nat → Int64} {O : Nat → UInt64} {Q : AO → AH → Prop} {ii bC bS : Nat} (hX : X.1 ≤ 3584) (hi : ii + 7 ≤ X.1)  (h1 : ¬ usC (A 4) 6 ≤ 3 → AW X 234 1353 [(0, .ref 1003), (1, .ref 0), (2, .ref 21), (3, .ref 35), (4, .ref 36), (5, .int (nI ii)), (6, .int 1)] [] (hp I A L O) (bC + 1) (bS + 1) Q) (h2 : usC (A 4) 6 ≤ 3 → ¬ isRk (nI (tAll I A L 0).1.1) (X.2 (ii + 1)) → AW X 234 1353 [(0, .ref 1003), (1, .ref 0), (2, .ref 21), (3, .ref 35), (4, .ref 36), (5, .int (nI ii)), (6, .int 2)] [] (hp (va_up (va_up (va_up I 10 (nI (tAll I A L 0).1.1)) 8 (tAll I A L 0).2.1) 9 (tAll I A L 0).2.2) A (va_up L 17 (tAll I A L 0).1.2) O) (bC + 1) (bS + 1) Q) (h0 : usC (A 4) 6 ≤ 3 → isRk (nI (tAll I A L 0).1.1) (X.2 (ii + 1)) → AW X 234 1353 [(0, .ref 1003), (1, .ref 0), (2, .ref 21), (3, .ref 35), (4, .ref 36), (5, .int (nI ii)), (6, .int 0)] [] (hp (va_up (va_up (va_up I 10 (nI (tAll I A L 0).1.1)) 8 (tAll I A L 0).2.1) 9 (tAll I A L 0).2.2) A (va_up (va_up L 17 (tAll I A L 0).1.2) 35 (vp_updL ((va_up L 17 (tAll I A L 0).1.2) 35) 0 ((p_cost (f_place (nI (tAll I A L 0).1.1) (tAll I A L 0).1.2 (X.2 (ii + 1))))).toInt64)) O) (bC + 1) (bS + 1) Q) : AW X 234 1340 [(0, .ref 1003), (1, .ref 0), (2, .ref 21), (3, .ref 35), (4, .ref 36), (5, .int (nI ii))] [] (hp I A L O) (bC + 5) (bS + 25) Q := by
  refine a_aload_n (i := 1) q234_1340 rfl rfl ?_
  refine a_aload_n (i := 0) q234_1341 rfl rfl ?_
  refine a_iload q234_1342 rfl ?_
  refine a_iconst (v := 1) q234_1344 (by decide) ?_
  refine a_iadd q234_1345 ?_
  refine a_scr (k := ii + 1) q234_1346 (nI_add ii 1) (by omega) hX ?_
  refine a_aload_n (i := 3) q234_1347 rfl rfl ?_
  refine a_callSW (as := [_, _, _]) q234_1348 rfl rfl ⟨rfl, rfl⟩ rfl ?_
  refine c_L_costByTrying  (h1 := fun y0 => ?_) (h2 := fun y0 y1 => ?_) (h0 := fun y0 y1 => ?_)
  · skip
    refine ck_r ?_
    refine a_istore (i := 6) (lv' := [(0, _), (1, _), (2, _), (3, _), (4, _), (5, _), (6, _)]) q234_1351 rfl rfl ?_
    exact AW.wide (bc' := bC + 1) (bs' := bS + 1) (show bC + 1 ≤ bC + 3 by omega) (show bS + 1 ≤ bS + 13 by omega) (AW.hp rfl (h1 y0))
  · skip
    refine ck_r ?_
    refine a_istore (i := 6) (lv' := [(0, _), (1, _), (2, _), (3, _), (4, _), (5, _), (6, _)]) q234_1351 rfl rfl ?_
    exact AW.wide (bc' := bC + 1) (bs' := bS + 1) (show bC + 1 ≤ bC + 3 by omega) (show bS + 1 ≤ bS + 13 by omega) (AW.hp rfl (h2 y0 y1))
  · skip
    refine ck_r ?_
    refine a_istore (i := 6) (lv' := [(0, _), (1, _), (2, _), (3, _), (4, _), (5, _), (6, _)]) q234_1351 rfl rfl ?_
    exact AW.wide (bc' := bC + 1) (bs' := bS + 1) (show bC + 1 ≤ bC + 3 by omega) (show bS + 1 ≤ bS + 13 by omega) (AW.hp rfl (h0 y0 y1))

theorem opA_mark {X : XS} {I : Nat → Int32} {A : Nat → Nat → Int32} {L : Nat → Nat → Int64} {O : Nat → UInt64} {Q : AO → AH → Prop} {ii bC bS : Nat} (hX : X.1 ≤ 3584) (hi : ii + 7 ≤ X.1) {k : Nat} (hk : I 7 = nI k) (hk5 : k ≤ 5) (h1 : ¬ isRk (nI (rkB I A L).1) (X.2 (ii + 1)) → AW X 234 1409 [(0, .ref 1003), (1, .ref 0), (2, .ref 21), (3, .ref 35), (4, .ref 36), (5, .int (nI ii)), (6, .int 1)] [] (hp (va_up (va_up I 6 0) 7 (nI (rkB I A L).1)) A (va_up L 14 (rkB I A L).2) O) (bC + 1) (bS + 1) Q) (h0 : isRk (nI (rkB I A L).1) (X.2 (ii + 1)) → AW X 234 1409 [(0, .ref 1003), (1, .ref 0), (2, .ref 21), (3, .ref 35), (4, .ref 36), (5, .int (nI ii)), (6, .int 0)] [] (hp (va_up (va_up I 6 0) 7 (nI (rkB I A L).1)) A (va_up (va_up L 14 (rkB I A L).2) 35 (vp_updL ((va_up L 14 (rkB I A L).2) 35) 0 ((g_mark (p_chart (f_place (nI (rkB I A L).1) (rkB I A L).2 (X.2 (ii + 1)))))).toInt64)) O) (bC + 1) (bS + 1) Q) : AW X 234 1396 [(0, .ref 1003), (1, .ref 0), (2, .ref 21), (3, .ref 35), (4, .ref 36), (5, .int (nI ii))] [] (hp I A L O) (bC + 5) (bS + 25) Q := by
  refine a_aload_n (i := 1) q234_1396 rfl rfl ?_
  refine a_aload_n (i := 0) q234_1397 rfl rfl ?_
  refine a_iload q234_1398 rfl ?_
  refine a_iconst (v := 1) q234_1400 (by decide) ?_
  refine a_iadd q234_1401 ?_
  refine a_scr (k := ii + 1) q234_1402 (nI_add ii 1) (by omega) hX ?_
  refine a_aload_n (i := 3) q234_1403 rfl rfl ?_
  refine a_callSW (as := [_, _, _]) q234_1404 rfl rfl ⟨rfl, rfl⟩ rfl ?_
  refine c_L_mark (hk := hk) (hk5 := hk5) (h1 := fun y0 => ?_) (h0 := fun y0 => ?_)
  · skip
    refine ck_r ?_
    refine a_istore (i := 6) (lv' := [(0, _), (1, _), (2, _), (3, _), (4, _), (5, _), (6, _)]) q234_1407 rfl rfl ?_
    exact AW.wide (bc' := bC + 1) (bs' := bS + 1) (show bC + 1 ≤ bC + 4 by omega) (show bS + 1 ≤ bS + 19 by omega) (AW.hp rfl (h1 y0))
  · skip
    refine ck_r ?_
    refine a_istore (i := 6) (lv' := [(0, _), (1, _), (2, _), (3, _), (4, _), (5, _), (6, _)]) q234_1407 rfl rfl ?_
    exact AW.wide (bc' := bC + 1) (bs' := bS + 1) (show bC + 1 ≤ bC + 4 by omega) (show bS + 1 ≤ bS + 19 by omega) (AW.hp rfl (h0 y0))

theorem opA_aggregate {X : XS} {I : Nat → Int32} {A : Nat → Nat → Int32} {L : Nat → Nat → Int64} {O : Nat → UInt64} {Q : AO → AH → Prop} {ii bC bS : Nat} (hX : X.1 ≤ 3584) (hi : ii + 7 ≤ X.1) {k : Nat} (hk : I 7 = nI k) (hk5 : k ≤ 5) (h1 : ¬ isRk (nI (rkB I A L).1) (X.2 (ii + 1)) → AW X 234 1465 [(0, .ref 1003), (1, .ref 0), (2, .ref 21), (3, .ref 35), (4, .ref 36), (5, .int (nI ii)), (6, .int 1)] [] (hp (va_up (va_up I 6 0) 7 (nI (rkB I A L).1)) A (va_up L 14 (rkB I A L).2) O) (bC + 1) (bS + 1) Q) (h0 : isRk (nI (rkB I A L).1) (X.2 (ii + 1)) → AW X 234 1465 [(0, .ref 1003), (1, .ref 0), (2, .ref 21), (3, .ref 35), (4, .ref 36), (5, .int (nI ii)), (6, .int 0)] [] (hp (va_up (va_up I 6 0) 7 (nI (rkB I A L).1)) A (va_up (va_up L 14 (rkB I A L).2) 35 (vp_updL ((va_up L 14 (rkB I A L).2) 35) 0 ((g_agg (p_chart (f_place (nI (rkB I A L).1) (rkB I A L).2 (X.2 (ii + 1)))))).toInt64)) O) (bC + 1) (bS + 1) Q) : AW X 234 1452 [(0, .ref 1003), (1, .ref 0), (2, .ref 21), (3, .ref 35), (4, .ref 36), (5, .int (nI ii))] [] (hp I A L O) (bC + 5) (bS + 25) Q := by
  refine a_aload_n (i := 1) q234_1452 rfl rfl ?_
  refine a_aload_n (i := 0) q234_1453 rfl rfl ?_
  refine a_iload q234_1454 rfl ?_
  refine a_iconst (v := 1) q234_1456 (by decide) ?_
  refine a_iadd q234_1457 ?_
  refine a_scr (k := ii + 1) q234_1458 (nI_add ii 1) (by omega) hX ?_
  refine a_aload_n (i := 3) q234_1459 rfl rfl ?_
  refine a_callSW (as := [_, _, _]) q234_1460 rfl rfl ⟨rfl, rfl⟩ rfl ?_
  refine c_L_aggregate (hk := hk) (hk5 := hk5) (h1 := fun y0 => ?_) (h0 := fun y0 => ?_)
  · skip
    refine ck_r ?_
    refine a_istore (i := 6) (lv' := [(0, _), (1, _), (2, _), (3, _), (4, _), (5, _), (6, _)]) q234_1463 rfl rfl ?_
    exact AW.wide (bc' := bC + 1) (bs' := bS + 1) (show bC + 1 ≤ bC + 4 by omega) (show bS + 1 ≤ bS + 19 by omega) (AW.hp rfl (h1 y0))
  · skip
    refine ck_r ?_
    refine a_istore (i := 6) (lv' := [(0, _), (1, _), (2, _), (3, _), (4, _), (5, _), (6, _)]) q234_1463 rfl rfl ?_
    exact AW.wide (bc' := bC + 1) (bs' := bS + 1) (show bC + 1 ≤ bC + 4 by omega) (show bS + 1 ≤ bS + 19 by omega) (AW.hp rfl (h0 y0))

theorem opA_column {X : XS} {I : Nat → Int32} {A : Nat → Nat → Int32} {L : Nat → Nat → Int64} {O : Nat → UInt64} {Q : AO → AH → Prop} {ii bC bS : Nat} (hX : X.1 ≤ 3584) (hi : ii + 7 ≤ X.1) {k : Nat} (hk : I 7 = nI k) (hk5 : k ≤ 5) (h1 : ¬ isRk (nI (rkB I A L).1) (X.2 (ii + 1)) → AW X 234 1527 [(0, .ref 1003), (1, .ref 0), (2, .ref 21), (3, .ref 35), (4, .ref 36), (5, .int (nI ii)), (6, .int 1)] [] (hp (va_up (va_up I 6 0) 7 (nI (rkB I A L).1)) A (va_up L 14 (rkB I A L).2) O) (bC + 1) (bS + 1) Q) (h2 : isRk (nI (rkB I A L).1) (X.2 (ii + 1)) → ¬ isChan (X.2 (ii + 2)) → AW X 234 1527 [(0, .ref 1003), (1, .ref 0), (2, .ref 21), (3, .ref 35), (4, .ref 36), (5, .int (nI ii)), (6, .int 2)] [] (hp (va_up (va_up I 6 0) 7 (nI (rkB I A L).1)) A (va_up L 14 (rkB I A L).2) O) (bC + 1) (bS + 1) Q) (h0 : isRk (nI (rkB I A L).1) (X.2 (ii + 1)) → isChan (X.2 (ii + 2)) → AW X 234 1527 [(0, .ref 1003), (1, .ref 0), (2, .ref 21), (3, .ref 35), (4, .ref 36), (5, .int (nI ii)), (6, .int 0)] [] (hp (va_up (va_up I 6 0) 7 (nI (rkB I A L).1)) A (va_up (va_up L 14 (rkB I A L).2) 35 (vp_updL ((va_up L 14 (rkB I A L).2) 35) 0 ((g_col (p_chart (f_place (nI (rkB I A L).1) (rkB I A L).2 (X.2 (ii + 1)))) (X.2 (ii + 2)))).toInt64)) O) (bC + 1) (bS + 1) Q) : AW X 234 1508 [(0, .ref 1003), (1, .ref 0), (2, .ref 21), (3, .ref 35), (4, .ref 36), (5, .int (nI ii))] [] (hp I A L O) (bC + 5) (bS + 25) Q := by
  refine a_aload_n (i := 1) q234_1508 rfl rfl ?_
  refine a_aload_n (i := 0) q234_1509 rfl rfl ?_
  refine a_iload q234_1510 rfl ?_
  refine a_iconst (v := 1) q234_1512 (by decide) ?_
  refine a_iadd q234_1513 ?_
  refine a_scr (k := ii + 1) q234_1514 (nI_add ii 1) (by omega) hX ?_
  refine a_aload_n (i := 0) q234_1515 rfl rfl ?_
  refine a_iload q234_1516 rfl ?_
  refine a_iconst (v := 2) q234_1518 (by decide) ?_
  refine a_iadd q234_1519 ?_
  refine a_scr (k := ii + 2) q234_1520 (nI_add ii 2) (by omega) hX ?_
  refine a_aload_n (i := 3) q234_1521 rfl rfl ?_
  refine a_callSW (as := [_, _, _, _]) q234_1522 rfl rfl ⟨rfl, rfl⟩ rfl ?_
  refine c_L_column (hk := hk) (hk5 := hk5) (h1 := fun y0 => ?_) (h2 := fun y0 y1 => ?_) (h0 := fun y0 y1 => ?_)
  · skip
    refine ck_r ?_
    refine a_istore (i := 6) (lv' := [(0, _), (1, _), (2, _), (3, _), (4, _), (5, _), (6, _)]) q234_1525 rfl rfl ?_
    exact AW.wide (bc' := bC + 1) (bs' := bS + 1) (show bC + 1 ≤ bC + 3 by omega) (show bS + 1 ≤ bS + 13 by omega) (AW.hp rfl (h1 y0))
  · skip
    refine ck_r ?_
    refine a_istore (i := 6) (lv' := [(0, _), (1, _), (2, _), (3, _), (4, _), (5, _), (6, _)]) q234_1525 rfl rfl ?_
    exact AW.wide (bc' := bC + 1) (bs' := bS + 1) (show bC + 1 ≤ bC + 3 by omega) (show bS + 1 ≤ bS + 13 by omega) (AW.hp rfl (h2 y0 y1))
  · skip
    refine ck_r ?_
    refine a_istore (i := 6) (lv' := [(0, _), (1, _), (2, _), (3, _), (4, _), (5, _), (6, _)]) q234_1525 rfl rfl ?_
    exact AW.wide (bc' := bC + 1) (bs' := bS + 1) (show bC + 1 ≤ bC + 3 by omega) (show bS + 1 ≤ bS + 13 by omega) (AW.hp rfl (h0 y0 y1))

theorem opA_setMargin {X : XS} {I : Nat → Int32} {A : Nat → Nat → Int32} {L : Nat → Nat → Int64} {O : Nat → UInt64} {Q : AO → AH → Prop} {ii bC bS : Nat} (hX : X.1 ≤ 3584) (hi : ii + 7 ≤ X.1)  (h1 : ¬ (0 ≤ (X.2 (ii + 1)) ∧ (X.2 (ii + 1)) ≤ 99) → AW X 234 1589 [(0, .ref 1003), (1, .ref 0), (2, .ref 21), (3, .ref 35), (4, .ref 36), (5, .int (nI ii)), (6, .int 1)] [] (hp I A L O) (bC + 1) (bS + 1) Q) (h0 : (0 ≤ (X.2 (ii + 1)) ∧ (X.2 (ii + 1)) ≤ 99) → AW X 234 1589 [(0, .ref 1003), (1, .ref 0), (2, .ref 21), (3, .ref 35), (4, .ref 36), (5, .int (nI ii)), (6, .int 0)] [] (hp (va_up I 0 (X.2 (ii + 1))) A (va_up L 35 (vp_updL (L 35) 0 ((I 0)).toInt64)) O) (bC + 1) (bS + 1) Q) : AW X 234 1576 [(0, .ref 1003), (1, .ref 0), (2, .ref 21), (3, .ref 35), (4, .ref 36), (5, .int (nI ii))] [] (hp I A L O) (bC + 5) (bS + 25) Q := by
  refine a_aload_n (i := 1) q234_1576 rfl rfl ?_
  refine a_aload_n (i := 0) q234_1577 rfl rfl ?_
  refine a_iload q234_1578 rfl ?_
  refine a_iconst (v := 1) q234_1580 (by decide) ?_
  refine a_iadd q234_1581 ?_
  refine a_scr (k := ii + 1) q234_1582 (nI_add ii 1) (by omega) hX ?_
  refine a_aload_n (i := 3) q234_1583 rfl rfl ?_
  refine a_callSW (as := [_, _, _]) q234_1584 rfl rfl ⟨rfl, rfl⟩ rfl ?_
  refine c_L_setMargin  (h1 := fun y0 => ?_) (h0 := fun y0 => ?_)
  · skip
    refine ck_r ?_
    refine a_istore (i := 6) (lv' := [(0, _), (1, _), (2, _), (3, _), (4, _), (5, _), (6, _)]) q234_1587 rfl rfl ?_
    exact AW.wide (bc' := bC + 1) (bs' := bS + 1) (show bC + 1 ≤ bC + 4 by omega) (show bS + 1 ≤ bS + 19 by omega) (AW.hp rfl (h1 y0))
  · skip
    refine ck_r ?_
    refine a_istore (i := 6) (lv' := [(0, _), (1, _), (2, _), (3, _), (4, _), (5, _), (6, _)]) q234_1587 rfl rfl ?_
    exact AW.wide (bc' := bC + 1) (bs' := bS + 1) (show bC + 1 ≤ bC + 4 by omega) (show bS + 1 ≤ bS + 19 by omega) (AW.hp rfl (h0 y0))

theorem opA_pick {X : XS} {I : Nat → Int32} {A : Nat → Nat → Int32} {L : Nat → Nat → Int64} {O : Nat → UInt64} {Q : AO → AH → Prop} {ii bC bS : Nat} (hX : X.1 ≤ 3584) (hi : ii + 7 ≤ X.1) {k : Nat} (hk : I 7 = nI k) (hk5 : k ≤ 5) {j : Nat} (hn : I 11 = nI j) (hj : j ≤ 4) (h1 : ¬ isRk (nI (rkB I A L).1) 0 → AW X 234 1639 [(0, .ref 1003), (1, .ref 0), (2, .ref 21), (3, .ref 35), (4, .ref 36), (5, .int (nI ii)), (6, .int 1)] [] (hp (va_up (va_up I 6 0) 7 (nI (rkB I A L).1)) A (va_up L 14 (rkB I A L).2) O) (bC + 1) (bS + 1) Q) (h2 : isRk (nI (rkB I A L).1) 0 → ¬ I 12 = -1 → (okC I A (I 12) ∧ f_cost I A L (I 12) ≤ p_cost (f_place (nI (rkB I A L).1) (rkB I A L).2 0) + I 0) → AW X 234 1639 [(0, .ref 1003), (1, .ref 0), (2, .ref 21), (3, .ref 35), (4, .ref 36), (5, .int (nI ii)), (6, .int 0)] [] (hp (va_up (va_up I 6 0) 7 (nI (rkB I A L).1)) A (va_up (va_up L 14 (rkB I A L).2) 35 (vp_updL ((va_up L 14 (rkB I A L).2) 35) 0 0)) O) (bC + 1) (bS + 1) Q) (h3 : isRk (nI (rkB I A L).1) 0 → I 12 = -1 → AW X 234 1639 [(0, .ref 1003), (1, .ref 0), (2, .ref 21), (3, .ref 35), (4, .ref 36), (5, .int (nI ii)), (6, .int 0)] [] (hp (va_up (va_up (va_up I 6 0) 7 (nI (rkB I A L).1)) 12 (p_chart (f_place (nI (rkB I A L).1) (rkB I A L).2 0))) A (va_up (va_up L 14 (rkB I A L).2) 35 (vp_updL ((va_up L 14 (rkB I A L).2) 35) 0 1)) O) (bC + 1) (bS + 1) Q) (h4 : isRk (nI (rkB I A L).1) 0 → ¬ I 12 = -1 → ¬ (okC I A (I 12) ∧ f_cost I A L (I 12) ≤ p_cost (f_place (nI (rkB I A L).1) (rkB I A L).2 0) + I 0) → AW X 234 1639 [(0, .ref 1003), (1, .ref 0), (2, .ref 21), (3, .ref 35), (4, .ref 36), (5, .int (nI ii)), (6, .int 0)] [] (hp (va_up (va_up (va_up (va_up I 6 0) 7 (nI (rkB I A L).1)) 11 (nI (kpN j))) 12 (p_chart (f_place (nI (rkB I A L).1) (rkB I A L).2 0))) (va_up A 20 (kpF (A 20) j (I 12))) (va_up (va_up L 14 (rkB I A L).2) 35 (vp_updL ((va_up L 14 (rkB I A L).2) 35) 0 1)) O) (bC + 1) (bS + 1) Q) : AW X 234 1632 [(0, .ref 1003), (1, .ref 0), (2, .ref 21), (3, .ref 35), (4, .ref 36), (5, .int (nI ii))] [] (hp I A L O) (bC + 5) (bS + 25) Q := by
  refine a_aload_n (i := 1) q234_1632 rfl rfl ?_
  refine a_aload_n (i := 3) q234_1633 rfl rfl ?_
  refine a_callSW (as := [_, _]) q234_1634 rfl rfl ⟨rfl, rfl⟩ rfl ?_
  refine c_L_pick (hk := hk) (hk5 := hk5) (hn := hn) (hj := hj) (h1 := fun y0 => ?_) (h2 := fun y0 y1 y2 => ?_) (h3 := fun y0 y1 => ?_) (h4 := fun y0 y1 y2 => ?_)
  · skip
    refine ck_r ?_
    refine a_istore (i := 6) (lv' := [(0, _), (1, _), (2, _), (3, _), (4, _), (5, _), (6, _)]) q234_1637 rfl rfl ?_
    exact AW.wide (bc' := bC + 1) (bs' := bS + 1) (show bC + 1 ≤ bC + 4 by omega) (show bS + 1 ≤ bS + 19 by omega) (AW.hp rfl (h1 y0))
  · skip
    refine ck_r ?_
    refine a_istore (i := 6) (lv' := [(0, _), (1, _), (2, _), (3, _), (4, _), (5, _), (6, _)]) q234_1637 rfl rfl ?_
    exact AW.wide (bc' := bC + 1) (bs' := bS + 1) (show bC + 1 ≤ bC + 4 by omega) (show bS + 1 ≤ bS + 19 by omega) (AW.hp rfl (h2 y0 y1 y2))
  · skip
    refine ck_r ?_
    refine a_istore (i := 6) (lv' := [(0, _), (1, _), (2, _), (3, _), (4, _), (5, _), (6, _)]) q234_1637 rfl rfl ?_
    exact AW.wide (bc' := bC + 1) (bs' := bS + 1) (show bC + 1 ≤ bC + 4 by omega) (show bS + 1 ≤ bS + 19 by omega) (AW.hp rfl (h3 y0 y1))
  · skip
    refine ck_r ?_
    refine a_istore (i := 6) (lv' := [(0, _), (1, _), (2, _), (3, _), (4, _), (5, _), (6, _)]) q234_1637 rfl rfl ?_
    exact AW.wide (bc' := bC + 1) (bs' := bS + 1) (show bC + 1 ≤ bC + 4 by omega) (show bS + 1 ≤ bS + 19 by omega) (AW.hp rfl (h4 y0 y1 y2))

theorem opA_pickMark {X : XS} {I : Nat → Int32} {A : Nat → Nat → Int32} {L : Nat → Nat → Int64} {O : Nat → UInt64} {Q : AO → AH → Prop} {ii bC bS : Nat} (hX : X.1 ≤ 3584) (hi : ii + 7 ≤ X.1)  (h1 : ¬ ¬ I 12 = -1 → AW X 234 1690 [(0, .ref 1003), (1, .ref 0), (2, .ref 21), (3, .ref 35), (4, .ref 36), (5, .int (nI ii)), (6, .int 1)] [] (hp I A L O) (bC + 1) (bS + 1) Q) (h0 : ¬ I 12 = -1 → AW X 234 1690 [(0, .ref 1003), (1, .ref 0), (2, .ref 21), (3, .ref 35), (4, .ref 36), (5, .int (nI ii)), (6, .int 0)] [] (hp I A (va_up L 35 (vp_updL (L 35) 0 ((g_mark (I 12))).toInt64)) O) (bC + 1) (bS + 1) Q) : AW X 234 1683 [(0, .ref 1003), (1, .ref 0), (2, .ref 21), (3, .ref 35), (4, .ref 36), (5, .int (nI ii))] [] (hp I A L O) (bC + 5) (bS + 25) Q := by
  refine a_aload_n (i := 1) q234_1683 rfl rfl ?_
  refine a_aload_n (i := 3) q234_1684 rfl rfl ?_
  refine a_callSW (as := [_, _]) q234_1685 rfl rfl ⟨rfl, rfl⟩ rfl ?_
  refine c_L_pickMark  (h1 := fun y0 => ?_) (h0 := fun y0 => ?_)
  · skip
    refine ck_r ?_
    refine a_istore (i := 6) (lv' := [(0, _), (1, _), (2, _), (3, _), (4, _), (5, _), (6, _)]) q234_1688 rfl rfl ?_
    exact AW.wide (bc' := bC + 1) (bs' := bS + 1) (show bC + 1 ≤ bC + 4 by omega) (show bS + 1 ≤ bS + 19 by omega) (AW.hp rfl (h1 y0))
  · skip
    refine ck_r ?_
    refine a_istore (i := 6) (lv' := [(0, _), (1, _), (2, _), (3, _), (4, _), (5, _), (6, _)]) q234_1688 rfl rfl ?_
    exact AW.wide (bc' := bC + 1) (bs' := bS + 1) (show bC + 1 ≤ bC + 4 by omega) (show bS + 1 ≤ bS + 19 by omega) (AW.hp rfl (h0 y0))

theorem opA_pickAggregate {X : XS} {I : Nat → Int32} {A : Nat → Nat → Int32} {L : Nat → Nat → Int64} {O : Nat → UInt64} {Q : AO → AH → Prop} {ii bC bS : Nat} (hX : X.1 ≤ 3584) (hi : ii + 7 ≤ X.1)  (h1 : ¬ ¬ I 12 = -1 → AW X 234 1734 [(0, .ref 1003), (1, .ref 0), (2, .ref 21), (3, .ref 35), (4, .ref 36), (5, .int (nI ii)), (6, .int 1)] [] (hp I A L O) (bC + 1) (bS + 1) Q) (h0 : ¬ I 12 = -1 → AW X 234 1734 [(0, .ref 1003), (1, .ref 0), (2, .ref 21), (3, .ref 35), (4, .ref 36), (5, .int (nI ii)), (6, .int 0)] [] (hp I A (va_up L 35 (vp_updL (L 35) 0 ((g_agg (I 12))).toInt64)) O) (bC + 1) (bS + 1) Q) : AW X 234 1727 [(0, .ref 1003), (1, .ref 0), (2, .ref 21), (3, .ref 35), (4, .ref 36), (5, .int (nI ii))] [] (hp I A L O) (bC + 5) (bS + 25) Q := by
  refine a_aload_n (i := 1) q234_1727 rfl rfl ?_
  refine a_aload_n (i := 3) q234_1728 rfl rfl ?_
  refine a_callSW (as := [_, _]) q234_1729 rfl rfl ⟨rfl, rfl⟩ rfl ?_
  refine c_L_pickAggregate  (h1 := fun y0 => ?_) (h0 := fun y0 => ?_)
  · skip
    refine ck_r ?_
    refine a_istore (i := 6) (lv' := [(0, _), (1, _), (2, _), (3, _), (4, _), (5, _), (6, _)]) q234_1732 rfl rfl ?_
    exact AW.wide (bc' := bC + 1) (bs' := bS + 1) (show bC + 1 ≤ bC + 4 by omega) (show bS + 1 ≤ bS + 19 by omega) (AW.hp rfl (h1 y0))
  · skip
    refine ck_r ?_
    refine a_istore (i := 6) (lv' := [(0, _), (1, _), (2, _), (3, _), (4, _), (5, _), (6, _)]) q234_1732 rfl rfl ?_
    exact AW.wide (bc' := bC + 1) (bs' := bS + 1) (show bC + 1 ≤ bC + 4 by omega) (show bS + 1 ≤ bS + 19 by omega) (AW.hp rfl (h0 y0))

theorem opA_pickColumn {X : XS} {I : Nat → Int32} {A : Nat → Nat → Int32} {L : Nat → Nat → Int64} {O : Nat → UInt64} {Q : AO → AH → Prop} {ii bC bS : Nat} (hX : X.1 ≤ 3584) (hi : ii + 7 ≤ X.1)  (h2 : ¬ isChan (X.2 (ii + 1)) → AW X 234 1784 [(0, .ref 1003), (1, .ref 0), (2, .ref 21), (3, .ref 35), (4, .ref 36), (5, .int (nI ii)), (6, .int 1)] [] (hp I A L O) (bC + 1) (bS + 1) Q) (h1 : isChan (X.2 (ii + 1)) → ¬ ¬ I 12 = -1 → AW X 234 1784 [(0, .ref 1003), (1, .ref 0), (2, .ref 21), (3, .ref 35), (4, .ref 36), (5, .int (nI ii)), (6, .int 2)] [] (hp I A L O) (bC + 1) (bS + 1) Q) (h0 : isChan (X.2 (ii + 1)) → ¬ I 12 = -1 → AW X 234 1784 [(0, .ref 1003), (1, .ref 0), (2, .ref 21), (3, .ref 35), (4, .ref 36), (5, .int (nI ii)), (6, .int 0)] [] (hp I A (va_up L 35 (vp_updL (L 35) 0 ((g_col (I 12) (X.2 (ii + 1)))).toInt64)) O) (bC + 1) (bS + 1) Q) : AW X 234 1771 [(0, .ref 1003), (1, .ref 0), (2, .ref 21), (3, .ref 35), (4, .ref 36), (5, .int (nI ii))] [] (hp I A L O) (bC + 5) (bS + 25) Q := by
  refine a_aload_n (i := 1) q234_1771 rfl rfl ?_
  refine a_aload_n (i := 0) q234_1772 rfl rfl ?_
  refine a_iload q234_1773 rfl ?_
  refine a_iconst (v := 1) q234_1775 (by decide) ?_
  refine a_iadd q234_1776 ?_
  refine a_scr (k := ii + 1) q234_1777 (nI_add ii 1) (by omega) hX ?_
  refine a_aload_n (i := 3) q234_1778 rfl rfl ?_
  refine a_callSW (as := [_, _, _]) q234_1779 rfl rfl ⟨rfl, rfl⟩ rfl ?_
  refine c_L_pickColumn  (h2 := fun y0 => ?_) (h1 := fun y0 y1 => ?_) (h0 := fun y0 y1 => ?_)
  · skip
    refine ck_r ?_
    refine a_istore (i := 6) (lv' := [(0, _), (1, _), (2, _), (3, _), (4, _), (5, _), (6, _)]) q234_1782 rfl rfl ?_
    exact AW.wide (bc' := bC + 1) (bs' := bS + 1) (show bC + 1 ≤ bC + 3 by omega) (show bS + 1 ≤ bS + 13 by omega) (AW.hp rfl (h2 y0))
  · skip
    refine ck_r ?_
    refine a_istore (i := 6) (lv' := [(0, _), (1, _), (2, _), (3, _), (4, _), (5, _), (6, _)]) q234_1782 rfl rfl ?_
    exact AW.wide (bc' := bC + 1) (bs' := bS + 1) (show bC + 1 ≤ bC + 3 by omega) (show bS + 1 ≤ bS + 13 by omega) (AW.hp rfl (h1 y0 y1))
  · skip
    refine ck_r ?_
    refine a_istore (i := 6) (lv' := [(0, _), (1, _), (2, _), (3, _), (4, _), (5, _), (6, _)]) q234_1782 rfl rfl ?_
    exact AW.wide (bc' := bC + 1) (bs' := bS + 1) (show bC + 1 ≤ bC + 3 by omega) (show bS + 1 ≤ bS + 13 by omega) (AW.hp rfl (h0 y0 y1))

theorem opA_formerPicks {X : XS} {I : Nat → Int32} {A : Nat → Nat → Int32} {L : Nat → Nat → Int64} {O : Nat → UInt64} {Q : AO → AH → Prop} {ii bC bS : Nat} (hX : X.1 ≤ 3584) (hi : ii + 7 ≤ X.1)  (hq : AW X 234 1831 [(0, .ref 1003), (1, .ref 0), (2, .ref 21), (3, .ref 35), (4, .ref 36), (5, .int (nI ii))] [.int (I 11)] (hp I A L O) (bC + 1) (bS + 1) Q) : AW X 234 1827 [(0, .ref 1003), (1, .ref 0), (2, .ref 21), (3, .ref 35), (4, .ref 36), (5, .int (nI ii))] [] (hp I A L O) (bC + 5) (bS + 25) Q := by
  refine a_aload_n (i := 1) q234_1827 rfl rfl ?_
  refine a_cv0 q234_1828 rfl rfl ⟨rfl, rfl⟩ rfl ?_
  refine c_X9_formerPicks  (hq := ?_)
  · skip
    refine ck_r ?_
    exact AW.wide (bc' := bC + 1) (bs' := bS + 1) (show bC + 1 ≤ bC + 5 by omega) (show bS + 1 ≤ bS + 25 by omega) (AW.hp rfl (hq))

theorem opA_unpick {X : XS} {I : Nat → Int32} {A : Nat → Nat → Int32} {L : Nat → Nat → Int64} {O : Nat → UInt64} {Q : AO → AH → Prop} {ii bC bS : Nat} (hX : X.1 ≤ 3584) (hi : ii + 7 ≤ X.1) {k : Nat} (hn : I 11 = nI k) (hk : k ≤ 4) (h1 : k = 0 → AW X 234 1847 [(0, .ref 1003), (1, .ref 0), (2, .ref 21), (3, .ref 35), (4, .ref 36), (5, .int (nI ii)), (6, .int 1)] [] (hp I A L O) (bC + 1) (bS + 1) Q) (h0 : ∀ j, k = j + 1 → AW X 234 1847 [(0, .ref 1003), (1, .ref 0), (2, .ref 21), (3, .ref 35), (4, .ref 36), (5, .int (nI ii)), (6, .int 0)] [] (hp (va_up (va_up I 12 (A 20 0)) 11 (nI j)) (va_up A 20 (shD (A 20) 0 j)) (va_up L 35 (vp_updL (L 35) 0 ((nI j)).toInt64)) O) (bC + 1) (bS + 1) Q) : AW X 234 1840 [(0, .ref 1003), (1, .ref 0), (2, .ref 21), (3, .ref 35), (4, .ref 36), (5, .int (nI ii))] [] (hp I A L O) (bC + 5) (bS + 25) Q := by
  refine a_aload_n (i := 1) q234_1840 rfl rfl ?_
  refine a_aload_n (i := 3) q234_1841 rfl rfl ?_
  refine a_callSW (as := [_, _]) q234_1842 rfl rfl ⟨rfl, rfl⟩ rfl ?_
  refine c_L_unpick (hn := hn) (hk := hk) (h1 := fun y0 => ?_) (h0 := fun j y1 => ?_)
  · skip
    refine ck_r ?_
    refine a_istore (i := 6) (lv' := [(0, _), (1, _), (2, _), (3, _), (4, _), (5, _), (6, _)]) q234_1845 rfl rfl ?_
    exact AW.wide (bc' := bC + 1) (bs' := bS + 1) (show bC + 1 ≤ bC + 4 by omega) (show bS + 1 ≤ bS + 19 by omega) (AW.hp rfl (h1 y0))
  · skip
    refine ck_r ?_
    refine a_istore (i := 6) (lv' := [(0, _), (1, _), (2, _), (3, _), (4, _), (5, _), (6, _)]) q234_1845 rfl rfl ?_
    exact AW.wide (bc' := bC + 1) (bs' := bS + 1) (show bC + 1 ≤ bC + 4 by omega) (show bS + 1 ≤ bS + 19 by omega) (AW.hp rfl (h0 j y1))

theorem opA_forget {X : XS} {I : Nat → Int32} {A : Nat → Nat → Int32} {L : Nat → Nat → Int64} {O : Nat → UInt64} {Q : AO → AH → Prop} {ii bC bS : Nat} (hX : X.1 ≤ 3584) (hi : ii + 7 ≤ X.1) {k : Nat} (hn : I 11 = nI k) (hk : k ≤ 4) (hq : AW X 234 1888 [(0, .ref 1003), (1, .ref 0), (2, .ref 21), (3, .ref 35), (4, .ref 36), (5, .int (nI ii))] [.int (nI k - nI (drF (okC I A) (A 20) 0 0 k).2)] (hp (va_up I 11 (nI (drF (okC I A) (A 20) 0 0 k).2)) (va_up A 20 (drF (okC I A) (A 20) 0 0 k).1) L O) (bC + 1) (bS + 1) Q) : AW X 234 1884 [(0, .ref 1003), (1, .ref 0), (2, .ref 21), (3, .ref 35), (4, .ref 36), (5, .int (nI ii))] [] (hp I A L O) (bC + 5) (bS + 25) Q := by
  refine a_aload_n (i := 1) q234_1884 rfl rfl ?_
  refine a_cv0 q234_1885 rfl rfl ⟨rfl, rfl⟩ rfl ?_
  refine c_X9_forget (hn := hn) (hk := hk) (hq := ?_)
  · skip
    refine ck_r ?_
    exact AW.wide (bc' := bC + 1) (bs' := bS + 1) (show bC + 1 ≤ bC + 5 by omega) (show bS + 1 ≤ bS + 25 by omega) (AW.hp rfl (hq))

theorem opA_draftMark {X : XS} {I : Nat → Int32} {A : Nat → Nat → Int32} {L : Nat → Nat → Int64} {O : Nat → UInt64} {Q : AO → AH → Prop} {ii bC bS : Nat} (hX : X.1 ≤ 3584) (hi : ii + 7 ≤ X.1)  (h1 : ¬ isMk (((X.2 (ii + 1)).toUInt32 % 65536).toInt32) → AW X 234 1911 [(0, .ref 1003), (1, .ref 0), (2, .ref 21), (3, .ref 35), (4, .ref 36), (5, .int (nI ii)), (6, .int 1)] [] (hp I A L O) (bC + 1) (bS + 1) Q) (h0 : isMk (((X.2 (ii + 1)).toUInt32 % 65536).toInt32) → AW X 234 1911 [(0, .ref 1003), (1, .ref 0), (2, .ref 21), (3, .ref 35), (4, .ref 36), (5, .int (nI ii)), (6, .int 0)] [] (hp (va_up I 1 (g_wMark (I 1) (((X.2 (ii + 1)).toUInt32 % 65536).toInt32))) A (va_up L 35 (vp_updL (L 35) 0 ((g_mark (I 1))).toInt64)) O) (bC + 1) (bS + 1) Q) : AW X 234 1897 [(0, .ref 1003), (1, .ref 0), (2, .ref 21), (3, .ref 35), (4, .ref 36), (5, .int (nI ii))] [] (hp I A L O) (bC + 5) (bS + 25) Q := by
  refine a_aload_n (i := 1) q234_1897 rfl rfl ?_
  refine a_aload_n (i := 0) q234_1898 rfl rfl ?_
  refine a_iload q234_1899 rfl ?_
  refine a_iconst (v := 1) q234_1901 (by decide) ?_
  refine a_iadd q234_1902 ?_
  refine a_scr (k := ii + 1) q234_1903 (nI_add ii 1) (by omega) hX ?_
  refine a_i2c q234_1904 ?_
  refine a_aload_n (i := 3) q234_1905 rfl rfl ?_
  refine a_callSW (as := [_, _, _]) q234_1906 rfl rfl ⟨rfl, rfl⟩ rfl ?_
  refine c_L_draftMark  (h1 := fun y0 => ?_) (h0 := fun y0 => ?_)
  · skip
    refine ck_r ?_
    refine a_istore (i := 6) (lv' := [(0, _), (1, _), (2, _), (3, _), (4, _), (5, _), (6, _)]) q234_1909 rfl rfl ?_
    exact AW.wide (bc' := bC + 1) (bs' := bS + 1) (show bC + 1 ≤ bC + 4 by omega) (show bS + 1 ≤ bS + 19 by omega) (AW.hp rfl (h1 y0))
  · skip
    refine ck_r ?_
    refine a_istore (i := 6) (lv' := [(0, _), (1, _), (2, _), (3, _), (4, _), (5, _), (6, _)]) q234_1909 rfl rfl ?_
    exact AW.wide (bc' := bC + 1) (bs' := bS + 1) (show bC + 1 ≤ bC + 4 by omega) (show bS + 1 ≤ bS + 19 by omega) (AW.hp rfl (h0 y0))

theorem opA_draftAggregate {X : XS} {I : Nat → Int32} {A : Nat → Nat → Int32} {L : Nat → Nat → Int64} {O : Nat → UInt64} {Q : AO → AH → Prop} {ii bC bS : Nat} (hX : X.1 ≤ 3584) (hi : ii + 7 ≤ X.1)  (h1 : ¬ ((X.2 (ii + 1)) = 0 ∨ (X.2 (ii + 1)) = 1 ∨ (X.2 (ii + 1)) = 2) → AW X 234 1968 [(0, .ref 1003), (1, .ref 0), (2, .ref 21), (3, .ref 35), (4, .ref 36), (5, .int (nI ii)), (6, .int 1)] [] (hp I A L O) (bC + 1) (bS + 1) Q) (h0 : ((X.2 (ii + 1)) = 0 ∨ (X.2 (ii + 1)) = 1 ∨ (X.2 (ii + 1)) = 2) → AW X 234 1968 [(0, .ref 1003), (1, .ref 0), (2, .ref 21), (3, .ref 35), (4, .ref 36), (5, .int (nI ii)), (6, .int 0)] [] (hp (va_up I 1 (g_wAgg (I 1) (X.2 (ii + 1)))) A (va_up L 35 (vp_updL (L 35) 0 ((g_agg (I 1))).toInt64)) O) (bC + 1) (bS + 1) Q) : AW X 234 1955 [(0, .ref 1003), (1, .ref 0), (2, .ref 21), (3, .ref 35), (4, .ref 36), (5, .int (nI ii))] [] (hp I A L O) (bC + 5) (bS + 25) Q := by
  refine a_aload_n (i := 1) q234_1955 rfl rfl ?_
  refine a_aload_n (i := 0) q234_1956 rfl rfl ?_
  refine a_iload q234_1957 rfl ?_
  refine a_iconst (v := 1) q234_1959 (by decide) ?_
  refine a_iadd q234_1960 ?_
  refine a_scr (k := ii + 1) q234_1961 (nI_add ii 1) (by omega) hX ?_
  refine a_aload_n (i := 3) q234_1962 rfl rfl ?_
  refine a_callSW (as := [_, _, _]) q234_1963 rfl rfl ⟨rfl, rfl⟩ rfl ?_
  refine c_L_draftAggregate  (h1 := fun y0 => ?_) (h0 := fun y0 => ?_)
  · skip
    refine ck_r ?_
    refine a_istore (i := 6) (lv' := [(0, _), (1, _), (2, _), (3, _), (4, _), (5, _), (6, _)]) q234_1966 rfl rfl ?_
    exact AW.wide (bc' := bC + 1) (bs' := bS + 1) (show bC + 1 ≤ bC + 4 by omega) (show bS + 1 ≤ bS + 19 by omega) (AW.hp rfl (h1 y0))
  · skip
    refine ck_r ?_
    refine a_istore (i := 6) (lv' := [(0, _), (1, _), (2, _), (3, _), (4, _), (5, _), (6, _)]) q234_1966 rfl rfl ?_
    exact AW.wide (bc' := bC + 1) (bs' := bS + 1) (show bC + 1 ≤ bC + 4 by omega) (show bS + 1 ≤ bS + 19 by omega) (AW.hp rfl (h0 y0))

theorem opA_draftColumn {X : XS} {I : Nat → Int32} {A : Nat → Nat → Int32} {L : Nat → Nat → Int64} {O : Nat → UInt64} {Q : AO → AH → Prop} {ii bC bS : Nat} (hX : X.1 ≤ 3584) (hi : ii + 7 ≤ X.1)  (h1 : ¬ (isChan (X.2 (ii + 1)) ∧ ((X.2 (ii + 2)) = -1 ∨ isCol (X.2 (ii + 2)))) → AW X 234 2030 [(0, .ref 1003), (1, .ref 0), (2, .ref 21), (3, .ref 35), (4, .ref 36), (5, .int (nI ii)), (6, .int 1)] [] (hp I A L O) (bC + 1) (bS + 1) Q) (h2 : isChan (X.2 (ii + 1)) → ((X.2 (ii + 2)) = -1 ∨ isCol (X.2 (ii + 2))) → (¬ (X.2 (ii + 2)) = g_col (I 1) (X.2 (ii + 1)) ∧ g_holds (I 1) (X.2 (ii + 2))) → AW X 234 2030 [(0, .ref 1003), (1, .ref 0), (2, .ref 21), (3, .ref 35), (4, .ref 36), (5, .int (nI ii)), (6, .int 2)] [] (hp I A L O) (bC + 1) (bS + 1) Q) (h0 : isChan (X.2 (ii + 1)) → ((X.2 (ii + 2)) = -1 ∨ isCol (X.2 (ii + 2))) → ¬ (¬ (X.2 (ii + 2)) = g_col (I 1) (X.2 (ii + 1)) ∧ g_holds (I 1) (X.2 (ii + 2))) → AW X 234 2030 [(0, .ref 1003), (1, .ref 0), (2, .ref 21), (3, .ref 35), (4, .ref 36), (5, .int (nI ii)), (6, .int 0)] [] (hp (va_up I 1 (g_wCol (I 1) (X.2 (ii + 1)) (X.2 (ii + 2)))) A (va_up L 35 (vp_updL (L 35) 0 ((g_col (I 1) (X.2 (ii + 1)))).toInt64)) O) (bC + 1) (bS + 1) Q) : AW X 234 2011 [(0, .ref 1003), (1, .ref 0), (2, .ref 21), (3, .ref 35), (4, .ref 36), (5, .int (nI ii))] [] (hp I A L O) (bC + 5) (bS + 25) Q := by
  refine a_aload_n (i := 1) q234_2011 rfl rfl ?_
  refine a_aload_n (i := 0) q234_2012 rfl rfl ?_
  refine a_iload q234_2013 rfl ?_
  refine a_iconst (v := 1) q234_2015 (by decide) ?_
  refine a_iadd q234_2016 ?_
  refine a_scr (k := ii + 1) q234_2017 (nI_add ii 1) (by omega) hX ?_
  refine a_aload_n (i := 0) q234_2018 rfl rfl ?_
  refine a_iload q234_2019 rfl ?_
  refine a_iconst (v := 2) q234_2021 (by decide) ?_
  refine a_iadd q234_2022 ?_
  refine a_scr (k := ii + 2) q234_2023 (nI_add ii 2) (by omega) hX ?_
  refine a_aload_n (i := 3) q234_2024 rfl rfl ?_
  refine a_callSW (as := [_, _, _, _]) q234_2025 rfl rfl ⟨rfl, rfl⟩ rfl ?_
  refine c_L_draftColumn  (h1 := fun y0 => ?_) (h2 := fun y0 y1 y2 => ?_) (h0 := fun y0 y1 y2 => ?_)
  · skip
    refine ck_r ?_
    refine a_istore (i := 6) (lv' := [(0, _), (1, _), (2, _), (3, _), (4, _), (5, _), (6, _)]) q234_2028 rfl rfl ?_
    exact AW.wide (bc' := bC + 1) (bs' := bS + 1) (show bC + 1 ≤ bC + 2 by omega) (show bS + 1 ≤ bS + 7 by omega) (AW.hp rfl (h1 y0))
  · skip
    refine ck_r ?_
    refine a_istore (i := 6) (lv' := [(0, _), (1, _), (2, _), (3, _), (4, _), (5, _), (6, _)]) q234_2028 rfl rfl ?_
    exact AW.wide (bc' := bC + 1) (bs' := bS + 1) (show bC + 1 ≤ bC + 2 by omega) (show bS + 1 ≤ bS + 7 by omega) (AW.hp rfl (h2 y0 y1 y2))
  · skip
    refine ck_r ?_
    refine a_istore (i := 6) (lv' := [(0, _), (1, _), (2, _), (3, _), (4, _), (5, _), (6, _)]) q234_2028 rfl rfl ?_
    exact AW.wide (bc' := bC + 1) (bs' := bS + 1) (show bC + 1 ≤ bC + 2 by omega) (show bS + 1 ≤ bS + 7 by omega) (AW.hp rfl (h0 y0 y1 y2))

theorem opA_brokenRule {X : XS} {I : Nat → Int32} {A : Nat → Nat → Int32} {L : Nat → Nat → Int64} {O : Nat → UInt64} {Q : AO → AH → Prop} {ii bC bS : Nat} (hX : X.1 ≤ 3584) (hi : ii + 7 ≤ X.1)  (hq : AW X 234 2083 [(0, .ref 1003), (1, .ref 0), (2, .ref 21), (3, .ref 35), (4, .ref 36), (5, .int (nI ii))] [.int (f_fb I A (I 1))] (hp I A L O) (bC + 1) (bS + 1) Q) : AW X 234 2079 [(0, .ref 1003), (1, .ref 0), (2, .ref 21), (3, .ref 35), (4, .ref 36), (5, .int (nI ii))] [] (hp I A L O) (bC + 5) (bS + 25) Q := by
  refine a_aload_n (i := 1) q234_2079 rfl rfl ?_
  refine a_cv0 q234_2080 rfl rfl ⟨rfl, rfl⟩ rfl ?_
  refine c_X9_brokenRule  (hq := ?_)
  · skip
    refine ck_r ?_
    exact AW.wide (bc' := bC + 1) (bs' := bS + 1) (show bC + 1 ≤ bC + 5 by omega) (show bS + 1 ≤ bS + 25 by omega) (AW.hp rfl (hq))

theorem opA_softRules {X : XS} {I : Nat → Int32} {A : Nat → Nat → Int32} {L : Nat → Nat → Int64} {O : Nat → UInt64} {Q : AO → AH → Prop} {ii bC bS : Nat} (hX : X.1 ≤ 3584) (hi : ii + 7 ≤ X.1)  (hq : AW X 234 2096 [(0, .ref 1003), (1, .ref 0), (2, .ref 21), (3, .ref 35), (4, .ref 36), (5, .int (nI ii))] [.int (f_soft I A (I 1))] (hp I A L O) (bC + 1) (bS + 1) Q) : AW X 234 2092 [(0, .ref 1003), (1, .ref 0), (2, .ref 21), (3, .ref 35), (4, .ref 36), (5, .int (nI ii))] [] (hp I A L O) (bC + 5) (bS + 25) Q := by
  refine a_aload_n (i := 1) q234_2092 rfl rfl ?_
  refine a_cv0 q234_2093 rfl rfl ⟨rfl, rfl⟩ rfl ?_
  refine c_X9_softRules  (hq := ?_)
  · skip
    refine ck_r ?_
    exact AW.wide (bc' := bC + 1) (bs' := bS + 1) (show bC + 1 ≤ bC + 5 by omega) (show bS + 1 ≤ bS + 25 by omega) (AW.hp rfl (hq))

theorem opA_draftCost {X : XS} {I : Nat → Int32} {A : Nat → Nat → Int32} {L : Nat → Nat → Int64} {O : Nat → UInt64} {Q : AO → AH → Prop} {ii bC bS : Nat} (hX : X.1 ≤ 3584) (hi : ii + 7 ≤ X.1)  (h1 : ¬ okC I A (I 1) → AW X 234 2112 [(0, .ref 1003), (1, .ref 0), (2, .ref 21), (3, .ref 35), (4, .ref 36), (5, .int (nI ii)), (6, .int 1)] [] (hp I A L O) (bC + 1) (bS + 1) Q) (h0 : okC I A (I 1) → AW X 234 2112 [(0, .ref 1003), (1, .ref 0), (2, .ref 21), (3, .ref 35), (4, .ref 36), (5, .int (nI ii)), (6, .int 0)] [] (hp I A (va_up L 35 (vp_updL (L 35) 0 ((f_cost I A L (I 1))).toInt64)) O) (bC + 1) (bS + 1) Q) : AW X 234 2105 [(0, .ref 1003), (1, .ref 0), (2, .ref 21), (3, .ref 35), (4, .ref 36), (5, .int (nI ii))] [] (hp I A L O) (bC + 5) (bS + 25) Q := by
  refine a_aload_n (i := 1) q234_2105 rfl rfl ?_
  refine a_aload_n (i := 3) q234_2106 rfl rfl ?_
  refine a_callSW (as := [_, _]) q234_2107 rfl rfl ⟨rfl, rfl⟩ rfl ?_
  refine c_L_draftCost  (h1 := fun y0 => ?_) (h0 := fun y0 => ?_)
  · skip
    refine ck_r ?_
    refine a_istore (i := 6) (lv' := [(0, _), (1, _), (2, _), (3, _), (4, _), (5, _), (6, _)]) q234_2110 rfl rfl ?_
    exact AW.wide (bc' := bC + 1) (bs' := bS + 1) (show bC + 1 ≤ bC + 4 by omega) (show bS + 1 ≤ bS + 19 by omega) (AW.hp rfl (h1 y0))
  · skip
    refine ck_r ?_
    refine a_istore (i := 6) (lv' := [(0, _), (1, _), (2, _), (3, _), (4, _), (5, _), (6, _)]) q234_2110 rfl rfl ?_
    exact AW.wide (bc' := bC + 1) (bs' := bS + 1) (show bC + 1 ≤ bC + 4 by omega) (show bS + 1 ≤ bS + 19 by omega) (AW.hp rfl (h0 y0))

theorem opA_draftRank {X : XS} {I : Nat → Int32} {A : Nat → Nat → Int32} {L : Nat → Nat → Int64} {O : Nat → UInt64} {Q : AO → AH → Prop} {ii bC bS : Nat} (hX : X.1 ≤ 3584) (hi : ii + 7 ≤ X.1)  (h1 : ¬ okC I A (I 1) → AW X 234 2156 [(0, .ref 1003), (1, .ref 0), (2, .ref 21), (3, .ref 35), (4, .ref 36), (5, .int (nI ii)), (6, .int 1)] [] (hp I A L O) (bC + 1) (bS + 1) Q) (h0 : okC I A (I 1) → AW X 234 2156 [(0, .ref 1003), (1, .ref 0), (2, .ref 21), (3, .ref 35), (4, .ref 36), (5, .int (nI ii)), (6, .int 0)] [] (hp (va_up (va_up (va_up I 10 (nI (tAll I A L (p_of (f_cost I A L (I 1)) (I 1))).1.1)) 8 (tAll I A L (p_of (f_cost I A L (I 1)) (I 1))).2.1) 9 (tAll I A L (p_of (f_cost I A L (I 1)) (I 1))).2.2) A (va_up (va_up L 17 (tAll I A L (p_of (f_cost I A L (I 1)) (I 1))).1.2) 35 (vp_updL ((va_up L 17 (tAll I A L (p_of (f_cost I A L (I 1)) (I 1))).1.2) 35) 0 ((tAll I A L (p_of (f_cost I A L (I 1)) (I 1))).2.2).toInt64)) O) (bC + 1) (bS + 1) Q) : AW X 234 2149 [(0, .ref 1003), (1, .ref 0), (2, .ref 21), (3, .ref 35), (4, .ref 36), (5, .int (nI ii))] [] (hp I A L O) (bC + 5) (bS + 25) Q := by
  refine a_aload_n (i := 1) q234_2149 rfl rfl ?_
  refine a_aload_n (i := 3) q234_2150 rfl rfl ?_
  refine a_callSW (as := [_, _]) q234_2151 rfl rfl ⟨rfl, rfl⟩ rfl ?_
  refine c_L_draftRank  (h1 := fun y0 => ?_) (h0 := fun y0 => ?_)
  · skip
    refine ck_r ?_
    refine a_istore (i := 6) (lv' := [(0, _), (1, _), (2, _), (3, _), (4, _), (5, _), (6, _)]) q234_2154 rfl rfl ?_
    exact AW.wide (bc' := bC + 1) (bs' := bS + 1) (show bC + 1 ≤ bC + 4 by omega) (show bS + 1 ≤ bS + 19 by omega) (AW.hp rfl (h1 y0))
  · skip
    refine ck_r ?_
    refine a_istore (i := 6) (lv' := [(0, _), (1, _), (2, _), (3, _), (4, _), (5, _), (6, _)]) q234_2154 rfl rfl ?_
    exact AW.wide (bc' := bC + 1) (bs' := bS + 1) (show bC + 1 ≤ bC + 4 by omega) (show bS + 1 ≤ bS + 19 by omega) (AW.hp rfl (h0 y0))

theorem opA_isSound {X : XS} {I : Nat → Int32} {A : Nat → Nat → Int32} {L : Nat → Nat → Int64} {O : Nat → UInt64} {Q : AO → AH → Prop} {ii bC bS : Nat} (hX : X.1 ≤ 3584) (hi : ii + 7 ≤ X.1) {k : Nat} (hk : I 7 = nI k) (hk5 : k ≤ 5) (ha : ∀ z, z < (rkB I A L).1 → okC I A (p_chart ((rkB I A L).2 z))) (ho : ∀ z, z + 1 < (rkB I A L).1 → ¬ (p_of (f_cost I A L (p_chart ((rkB I A L).2 (z + 1)))) (p_chart ((rkB I A L).2 (z + 1)))) < (p_of (f_cost I A L (p_chart ((rkB I A L).2 z))) (p_chart ((rkB I A L).2 z)))) (hf : (¬ isRk ((va_up (va_up (va_up (va_up (va_up I 6 0) 7 (nI (rkB I A L).1)) 10 (nI (tAll (va_up (va_up I 6 0) 7 (nI (rkB I A L).1)) A (va_up L 14 (rkB I A L).2) 0).1.1)) 8 (tAll (va_up (va_up I 6 0) 7 (nI (rkB I A L).1)) A (va_up L 14 (rkB I A L).2) 0).2.1) 9 (tAll (va_up (va_up I 6 0) 7 (nI (rkB I A L).1)) A (va_up L 14 (rkB I A L).2) 0).2.2) 7) 0 ∧ ¬ isRk ((va_up (va_up (va_up (va_up (va_up I 6 0) 7 (nI (rkB I A L).1)) 10 (nI (tAll (va_up (va_up I 6 0) 7 (nI (rkB I A L).1)) A (va_up L 14 (rkB I A L).2) 0).1.1)) 8 (tAll (va_up (va_up I 6 0) 7 (nI (rkB I A L).1)) A (va_up L 14 (rkB I A L).2) 0).2.1) 9 (tAll (va_up (va_up I 6 0) 7 (nI (rkB I A L).1)) A (va_up L 14 (rkB I A L).2) 0).2.2) 10) 0) ∨ (isRk ((va_up (va_up (va_up (va_up (va_up I 6 0) 7 (nI (rkB I A L).1)) 10 (nI (tAll (va_up (va_up I 6 0) 7 (nI (rkB I A L).1)) A (va_up L 14 (rkB I A L).2) 0).1.1)) 8 (tAll (va_up (va_up I 6 0) 7 (nI (rkB I A L).1)) A (va_up L 14 (rkB I A L).2) 0).2.1) 9 (tAll (va_up (va_up I 6 0) 7 (nI (rkB I A L).1)) A (va_up L 14 (rkB I A L).2) 0).2.2) 7) 0 ∧ isRk ((va_up (va_up (va_up (va_up (va_up I 6 0) 7 (nI (rkB I A L).1)) 10 (nI (tAll (va_up (va_up I 6 0) 7 (nI (rkB I A L).1)) A (va_up L 14 (rkB I A L).2) 0).1.1)) 8 (tAll (va_up (va_up I 6 0) 7 (nI (rkB I A L).1)) A (va_up L 14 (rkB I A L).2) 0).2.1) 9 (tAll (va_up (va_up I 6 0) 7 (nI (rkB I A L).1)) A (va_up L 14 (rkB I A L).2) 0).2.2) 10) 0 ∧ f_cost (va_up (va_up (va_up (va_up (va_up I 6 0) 7 (nI (rkB I A L).1)) 10 (nI (tAll (va_up (va_up I 6 0) 7 (nI (rkB I A L).1)) A (va_up L 14 (rkB I A L).2) 0).1.1)) 8 (tAll (va_up (va_up I 6 0) 7 (nI (rkB I A L).1)) A (va_up L 14 (rkB I A L).2) 0).2.1) 9 (tAll (va_up (va_up I 6 0) 7 (nI (rkB I A L).1)) A (va_up L 14 (rkB I A L).2) 0).2.2) A (va_up (va_up L 14 (rkB I A L).2) 17 (tAll (va_up (va_up I 6 0) 7 (nI (rkB I A L).1)) A (va_up L 14 (rkB I A L).2) 0).1.2) (p_chart (f_place ((va_up (va_up (va_up (va_up (va_up I 6 0) 7 (nI (rkB I A L).1)) 10 (nI (tAll (va_up (va_up I 6 0) 7 (nI (rkB I A L).1)) A (va_up L 14 (rkB I A L).2) 0).1.1)) 8 (tAll (va_up (va_up I 6 0) 7 (nI (rkB I A L).1)) A (va_up L 14 (rkB I A L).2) 0).2.1) 9 (tAll (va_up (va_up I 6 0) 7 (nI (rkB I A L).1)) A (va_up L 14 (rkB I A L).2) 0).2.2) 7) ((va_up (va_up L 14 (rkB I A L).2) 17 (tAll (va_up (va_up I 6 0) 7 (nI (rkB I A L).1)) A (va_up L 14 (rkB I A L).2) 0).1.2) 14) 0)) = p_cost (f_place ((va_up (va_up (va_up (va_up (va_up I 6 0) 7 (nI (rkB I A L).1)) 10 (nI (tAll (va_up (va_up I 6 0) 7 (nI (rkB I A L).1)) A (va_up L 14 (rkB I A L).2) 0).1.1)) 8 (tAll (va_up (va_up I 6 0) 7 (nI (rkB I A L).1)) A (va_up L 14 (rkB I A L).2) 0).2.1) 9 (tAll (va_up (va_up I 6 0) 7 (nI (rkB I A L).1)) A (va_up L 14 (rkB I A L).2) 0).2.2) 10) ((va_up (va_up L 14 (rkB I A L).2) 17 (tAll (va_up (va_up I 6 0) 7 (nI (rkB I A L).1)) A (va_up L 14 (rkB I A L).2) 0).1.2) 17) 0))) (hq : AW X 234 2197 [(0, .ref 1003), (1, .ref 0), (2, .ref 21), (3, .ref 35), (4, .ref 36), (5, .int (nI ii))] [.int 1] (hp (va_up (va_up (va_up (va_up (va_up I 6 0) 7 (nI (rkB I A L).1)) 10 (nI (tAll (va_up (va_up I 6 0) 7 (nI (rkB I A L).1)) A (va_up L 14 (rkB I A L).2) 0).1.1)) 8 (tAll (va_up (va_up I 6 0) 7 (nI (rkB I A L).1)) A (va_up L 14 (rkB I A L).2) 0).2.1) 9 (tAll (va_up (va_up I 6 0) 7 (nI (rkB I A L).1)) A (va_up L 14 (rkB I A L).2) 0).2.2) A (va_up (va_up L 14 (rkB I A L).2) 17 (tAll (va_up (va_up I 6 0) 7 (nI (rkB I A L).1)) A (va_up L 14 (rkB I A L).2) 0).1.2) O) (bC + 1) (bS + 1) Q) : AW X 234 2193 [(0, .ref 1003), (1, .ref 0), (2, .ref 21), (3, .ref 35), (4, .ref 36), (5, .int (nI ii))] [] (hp I A L O) (bC + 5) (bS + 25) Q := by
  refine a_aload_n (i := 1) q234_2193 rfl rfl ?_
  refine a_cv0 q234_2194 rfl rfl ⟨rfl, rfl⟩ rfl ?_
  refine c_X9_isSound (hk := hk) (hk5 := hk5) (ha := ha) (ho := ho) (hf := hf) (hq := ?_)
  · skip
    refine ck_r ?_
    exact AW.wide (bc' := bC + 1) (bs' := bS + 1) (show bC + 1 ≤ bC + 5 by omega) (show bS + 1 ≤ bS + 25 by omega) (AW.hp rfl (hq))
