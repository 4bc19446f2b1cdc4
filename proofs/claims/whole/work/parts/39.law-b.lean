/-! the law's calls: the model's half -/
theorem opB_addRow {X : XS} {I : Nat → Int32} {A : Nat → Nat → Int32} {L : Nat → Nat → Int64} {O : Nat → UInt64} {Q : AO → AH → Prop} {ii bC bS : Nat} {ev : Int32} (hX : X.1 ≤ 3584) (hi : ii + 7 ≤ X.1) {n : Nat} (hn : I 20 = nI n) (hn40 : n ≤ 40) (h1 : ¬ (isVal (X.2 (ii + 1)) ∧ isVal (X.2 (ii + 2)) ∧ isVal (X.2 (ii + 3)) ∧ isVal (X.2 (ii + 4)) ∧ isVal (X.2 (ii + 5)) ∧ isVal (X.2 (ii + 6))) → ev = 1 ∧ AW X 234 2206 [(0, .ref 1003), (1, .ref 0), (2, .ref 21), (3, .ref 35), (4, .ref 36), (5, .int (nI ii))] [] (hp (va_up I 26 1) A L O) bC bS Q) (h2 : (isVal (X.2 (ii + 1)) ∧ isVal (X.2 (ii + 2)) ∧ isVal (X.2 (ii + 3)) ∧ isVal (X.2 (ii + 4)) ∧ isVal (X.2 (ii + 5)) ∧ isVal (X.2 (ii + 6))) → n = 40 → ev = 2 ∧ AW X 234 2206 [(0, .ref 1003), (1, .ref 0), (2, .ref 21), (3, .ref 35), (4, .ref 36), (5, .int (nI ii))] [] (hp (va_up I 26 2) A L O) bC bS Q) (h3 : (isVal (X.2 (ii + 1)) ∧ isVal (X.2 (ii + 2)) ∧ isVal (X.2 (ii + 3)) ∧ isVal (X.2 (ii + 4)) ∧ isVal (X.2 (ii + 5)) ∧ isVal (X.2 (ii + 6))) → n < 40 → ev = 0 ∧ L 35 0 = ((nI (n + 1))).toInt64 ∧ AW X 234 2206 [(0, .ref 1003), (1, .ref 0), (2, .ref 21), (3, .ref 35), (4, .ref 36), (5, .int (nI ii))] [] (hp (va_up (va_up (va_up I 26 0) 29 0) 20 (nI (n + 1))) (mAdd A n (X.2 (ii + 1)) (X.2 (ii + 2)) (X.2 (ii + 3)) (X.2 (ii + 4)) (X.2 (ii + 5)) (X.2 (ii + 6))) L O) bC bS Q) : AW X 234 256 [(0, .ref 1003), (1, .ref 0), (2, .ref 21), (3, .ref 35), (4, .ref 36), (5, .int (nI ii)), (6, .int ev)] [] (hp I A L O) (bC + 1) (bS + 1) Q := by
  refine a_aload_n (i := 2) q234_256 rfl rfl ?_
  refine a_aload_n (i := 0) q234_257 rfl rfl ?_
  refine a_iload q234_258 rfl ?_
  refine a_iconst (v := 1) q234_260 (by decide) ?_
  refine a_iadd q234_261 ?_
  refine a_scr (k := ii + 1) q234_262 (nI_add ii 1) (by omega) hX ?_
  refine a_aload_n (i := 0) q234_263 rfl rfl ?_
  refine a_iload q234_264 rfl ?_
  refine a_iconst (v := 2) q234_266 (by decide) ?_
  refine a_iadd q234_267 ?_
  refine a_scr (k := ii + 2) q234_268 (nI_add ii 2) (by omega) hX ?_
  refine a_aload_n (i := 0) q234_269 rfl rfl ?_
  refine a_iload q234_270 rfl ?_
  refine a_iconst (v := 3) q234_272 (by decide) ?_
  refine a_iadd q234_273 ?_
  refine a_scr (k := ii + 3) q234_274 (nI_add ii 3) (by omega) hX ?_
  refine a_aload_n (i := 0) q234_275 rfl rfl ?_
  refine a_iload q234_276 rfl ?_
  refine a_iconst (v := 4) q234_278 (by decide) ?_
  refine a_iadd q234_279 ?_
  refine a_scr (k := ii + 4) q234_280 (nI_add ii 4) (by omega) hX ?_
  refine a_aload_n (i := 0) q234_281 rfl rfl ?_
  refine a_iload q234_282 rfl ?_
  refine a_iconst (v := 5) q234_284 (by decide) ?_
  refine a_iadd q234_285 ?_
  refine a_scr (k := ii + 5) q234_286 (nI_add ii 5) (by omega) hX ?_
  refine a_aload_n (i := 0) q234_287 rfl rfl ?_
  refine a_iload q234_288 rfl ?_
  refine a_bipush (v := 6) q234_290 (by decide) ?_
  refine a_iadd q234_292 ?_
  refine a_scr (k := ii + 6) q234_293 (nI_add ii 6) (by omega) hX ?_
  refine a_cv6 q234_294 rfl rfl ⟨rfl, rfl⟩ rfl ?_
  refine c_X10_addRow (hn := hn) (hn40 := hn40) (h1 := fun y0 => ?_) (h2 := fun y0 y1 => ?_) (h3 := fun y0 y1 => ?_)
  · skip
    obtain ⟨ze, zk⟩ := h1 y0
    subst ze
    refine ck_r ?_
    refine a_istore (i := 7) (lv' := [(0, _), (1, _), (2, _), (3, _), (4, _), (5, _), (6, _), (7, _)]) q234_297 rfl rfl ?_
    refine a_aload_n (i := 2) q234_299 rfl rfl ?_
    refine a_cv0 q234_300 rfl rfl ⟨rfl, rfl⟩ rfl ?_
    refine c_X10_thrown ?_
    refine ck_r ?_
    refine AW.ti (show _ = (1 : Int32) from rfl) ?_
    refine a_iload q234_303 rfl ?_
    refine a_icmp_eq (tgt := 310) q234_305 (by decide) (fun zc305 => ?_) (fun zc305 => absurd (rfl) zc305)
    refine a_iload q234_310 rfl ?_
    refine a_if_ne (tgt := 327) q234_312 (by decide) (fun zc312 => ?_) (fun zc312 => absurd zc312 (by decide))
    refine a_goto (tgt := 2206) q234_327 (by decide) ?_
    refine AW.pop_less (x := (7, _)) (lv' := [(0, _), (1, _), (2, _), (3, _), (4, _), (5, _), (6, _)]) ?_
    refine AW.pop_less (x := (6, _)) (lv' := [(0, _), (1, _), (2, _), (3, _), (4, _), (5, _)]) ?_
    exact AW.wide (bc' := bC) (bs' := bS) (show bC ≤ bC + 1 from Nat.le_succ bC) (show bS ≤ bS + 1 from Nat.le_succ bS) zk
  · skip
    obtain ⟨ze, zk⟩ := h2 y0 y1
    subst ze
    refine ck_r ?_
    refine a_istore (i := 7) (lv' := [(0, _), (1, _), (2, _), (3, _), (4, _), (5, _), (6, _), (7, _)]) q234_297 rfl rfl ?_
    refine a_aload_n (i := 2) q234_299 rfl rfl ?_
    refine a_cv0 q234_300 rfl rfl ⟨rfl, rfl⟩ rfl ?_
    refine c_X10_thrown ?_
    refine ck_r ?_
    refine AW.ti (show _ = (2 : Int32) from rfl) ?_
    refine a_iload q234_303 rfl ?_
    refine a_icmp_eq (tgt := 310) q234_305 (by decide) (fun zc305 => ?_) (fun zc305 => absurd (rfl) zc305)
    refine a_iload q234_310 rfl ?_
    refine a_if_ne (tgt := 327) q234_312 (by decide) (fun zc312 => ?_) (fun zc312 => absurd zc312 (by decide))
    refine a_goto (tgt := 2206) q234_327 (by decide) ?_
    refine AW.pop_less (x := (7, _)) (lv' := [(0, _), (1, _), (2, _), (3, _), (4, _), (5, _), (6, _)]) ?_
    refine AW.pop_less (x := (6, _)) (lv' := [(0, _), (1, _), (2, _), (3, _), (4, _), (5, _)]) ?_
    exact AW.wide (bc' := bC) (bs' := bS) (show bC ≤ bC + 1 from Nat.le_succ bC) (show bS ≤ bS + 1 from Nat.le_succ bS) zk
  · skip
    obtain ⟨ze, zv, zk⟩ := h3 y0 y1
    subst ze
    refine ck_r ?_
    refine a_istore (i := 7) (lv' := [(0, _), (1, _), (2, _), (3, _), (4, _), (5, _), (6, _), (7, _)]) q234_297 rfl rfl ?_
    refine a_aload_n (i := 2) q234_299 rfl rfl ?_
    refine a_cv0 q234_300 rfl rfl ⟨rfl, rfl⟩ rfl ?_
    refine c_X10_thrown ?_
    refine ck_r ?_
    refine AW.ti (show _ = (0 : Int32) from rfl) ?_
    refine a_iload q234_303 rfl ?_
    refine a_icmp_eq (tgt := 310) q234_305 (by decide) (fun zc305 => ?_) (fun zc305 => absurd (rfl) zc305)
    refine a_iload q234_310 rfl ?_
    refine a_if_ne (tgt := 327) q234_312 (by decide) (fun zc312 => absurd zc312 (by decide)) (fun zc312 => ?_)
    refine a_aload_n (i := 3) q234_315 rfl rfl ?_
    refine a_iconst (v := 0) q234_316 (by decide) ?_
    refine a_lald' (j := 0) q234_317 rfl rfl (by decide) (by decide) ?_
    refine AW.tl zv ?_
    refine a_iload q234_318 rfl ?_
    refine a_i2l q234_320 ?_
    refine a_lcmp q234_321 ?_
    refine a_if_eq (tgt := 327) q234_322 (by decide) (fun zc322 => ?_) (fun zc322 => absurd ((lg_cmp_eq _ _).mpr rfl) zc322)
    refine a_goto (tgt := 2206) q234_327 (by decide) ?_
    refine AW.pop_less (x := (7, _)) (lv' := [(0, _), (1, _), (2, _), (3, _), (4, _), (5, _), (6, _)]) ?_
    refine AW.pop_less (x := (6, _)) (lv' := [(0, _), (1, _), (2, _), (3, _), (4, _), (5, _)]) ?_
    exact AW.wide (bc' := bC) (bs' := bS) (show bC ≤ bC + 1 from Nat.le_succ bC) (show bS ≤ bS + 1 from Nat.le_succ bS) zk

theorem opB_dropRow {X : XS} {I : Nat → Int32} {A : Nat → Nat → Int32} {L : Nat → Nat → Int64} {O : Nat → UInt64} {Q : AO → AH → Prop} {ii bC bS : Nat} {ev : Int32} (hX : X.1 ≤ 3584) (hi : ii + 7 ≤ X.1) {n : Nat} (hn : I 20 = nI n) (hn40 : n ≤ 40) (h1 : ¬ inRow n (X.2 (ii + 1)) → ev = 1 ∧ AW X 234 2206 [(0, .ref 1003), (1, .ref 0), (2, .ref 21), (3, .ref 35), (4, .ref 36), (5, .int (nI ii))] [] (hp (va_up I 26 1) A L O) bC bS Q) (h0 : ∀ j k, (X.2 (ii + 1)) = nI j → n = k + 1 → j ≤ k → ev = 0 ∧ L 35 0 = ((nI k)).toInt64 ∧ AW X 234 2206 [(0, .ref 1003), (1, .ref 0), (2, .ref 21), (3, .ref 35), (4, .ref 36), (5, .int (nI ii))] [] (hp (va_up (va_up (va_up I 26 0) 29 0) 20 (nI k)) (va_up A 22 (mDrp (A 22) (6 * j) (6 * k - 6 * j))) L O) bC bS Q) : AW X 234 343 [(0, .ref 1003), (1, .ref 0), (2, .ref 21), (3, .ref 35), (4, .ref 36), (5, .int (nI ii)), (6, .int ev)] [] (hp I A L O) (bC + 1) (bS + 1) Q := by
  refine a_aload_n (i := 2) q234_343 rfl rfl ?_
  refine a_aload_n (i := 0) q234_344 rfl rfl ?_
  refine a_iload q234_345 rfl ?_
  refine a_iconst (v := 1) q234_347 (by decide) ?_
  refine a_iadd q234_348 ?_
  refine a_scr (k := ii + 1) q234_349 (nI_add ii 1) (by omega) hX ?_
  refine a_cv1 q234_350 rfl rfl ⟨rfl, rfl⟩ rfl ?_
  refine c_X10_dropRow (hn := hn) (hn40 := hn40) (h1 := fun y0 => ?_) (h0 := fun j k y2 y3 y4 => ?_)
  · skip
    obtain ⟨ze, zk⟩ := h1 y0
    subst ze
    refine ck_r ?_
    refine a_istore (i := 7) (lv' := [(0, _), (1, _), (2, _), (3, _), (4, _), (5, _), (6, _), (7, _)]) q234_353 rfl rfl ?_
    refine a_aload_n (i := 2) q234_355 rfl rfl ?_
    refine a_cv0 q234_356 rfl rfl ⟨rfl, rfl⟩ rfl ?_
    refine c_X10_thrown ?_
    refine ck_r ?_
    refine AW.ti (show _ = (1 : Int32) from rfl) ?_
    refine a_iload q234_359 rfl ?_
    refine a_icmp_eq (tgt := 366) q234_361 (by decide) (fun zc361 => ?_) (fun zc361 => absurd (rfl) zc361)
    refine a_iload q234_366 rfl ?_
    refine a_if_ne (tgt := 383) q234_368 (by decide) (fun zc368 => ?_) (fun zc368 => absurd zc368 (by decide))
    refine a_goto (tgt := 2206) q234_383 (by decide) ?_
    refine AW.pop_less (x := (7, _)) (lv' := [(0, _), (1, _), (2, _), (3, _), (4, _), (5, _), (6, _)]) ?_
    refine AW.pop_less (x := (6, _)) (lv' := [(0, _), (1, _), (2, _), (3, _), (4, _), (5, _)]) ?_
    exact AW.wide (bc' := bC) (bs' := bS) (show bC ≤ bC + 1 from Nat.le_succ bC) (show bS ≤ bS + 1 from Nat.le_succ bS) zk
  · skip
    obtain ⟨ze, zv, zk⟩ := h0 j k y2 y3 y4
    subst ze
    refine ck_r ?_
    refine a_istore (i := 7) (lv' := [(0, _), (1, _), (2, _), (3, _), (4, _), (5, _), (6, _), (7, _)]) q234_353 rfl rfl ?_
    refine a_aload_n (i := 2) q234_355 rfl rfl ?_
    refine a_cv0 q234_356 rfl rfl ⟨rfl, rfl⟩ rfl ?_
    refine c_X10_thrown ?_
    refine ck_r ?_
    refine AW.ti (show _ = (0 : Int32) from rfl) ?_
    refine a_iload q234_359 rfl ?_
    refine a_icmp_eq (tgt := 366) q234_361 (by decide) (fun zc361 => ?_) (fun zc361 => absurd (rfl) zc361)
    refine a_iload q234_366 rfl ?_
    refine a_if_ne (tgt := 383) q234_368 (by decide) (fun zc368 => absurd zc368 (by decide)) (fun zc368 => ?_)
    refine a_aload_n (i := 3) q234_371 rfl rfl ?_
    refine a_iconst (v := 0) q234_372 (by decide) ?_
    refine a_lald' (j := 0) q234_373 rfl rfl (by decide) (by decide) ?_
    refine AW.tl zv ?_
    refine a_iload q234_374 rfl ?_
    refine a_i2l q234_376 ?_
    refine a_lcmp q234_377 ?_
    refine a_if_eq (tgt := 383) q234_378 (by decide) (fun zc378 => ?_) (fun zc378 => absurd ((lg_cmp_eq _ _).mpr rfl) zc378)
    refine a_goto (tgt := 2206) q234_383 (by decide) ?_
    refine AW.pop_less (x := (7, _)) (lv' := [(0, _), (1, _), (2, _), (3, _), (4, _), (5, _), (6, _)]) ?_
    refine AW.pop_less (x := (6, _)) (lv' := [(0, _), (1, _), (2, _), (3, _), (4, _), (5, _)]) ?_
    exact AW.wide (bc' := bC) (bs' := bS) (show bC ≤ bC + 1 from Nat.le_succ bC) (show bS ≤ bS + 1 from Nat.le_succ bS) zk

theorem opB_put {X : XS} {I : Nat → Int32} {A : Nat → Nat → Int32} {L : Nat → Nat → Int64} {O : Nat → UInt64} {Q : AO → AH → Prop} {ii bC bS : Nat} {ev : Int32} (hX : X.1 ≤ 3584) (hi : ii + 7 ≤ X.1) {n : Nat} (hn : I 20 = nI n) (hn40 : n ≤ 40) (h1 : ¬ (inRow n (X.2 (ii + 1)) ∧ isCol (X.2 (ii + 2))) → ev = 1 ∧ AW X 234 2206 [(0, .ref 1003), (1, .ref 0), (2, .ref 21), (3, .ref 35), (4, .ref 36), (5, .int (nI ii))] [] (hp (va_up I 26 1) A L O) bC bS Q) (h2 : inRow n (X.2 (ii + 1)) ∧ isCol (X.2 (ii + 2)) → ¬ isVal (X.2 (ii + 3)) → ev = 2 ∧ AW X 234 2206 [(0, .ref 1003), (1, .ref 0), (2, .ref 21), (3, .ref 35), (4, .ref 36), (5, .int (nI ii))] [] (hp (va_up I 26 2) A L O) bC bS Q) (h3 : ∀ j k, j < n → k < 6 → (X.2 (ii + 1)) = nI j → (X.2 (ii + 2)) = nI k → isVal (X.2 (ii + 3)) → ev = 0 ∧ L 35 0 = ((mv A k j)).toInt64 ∧ AW X 234 2206 [(0, .ref 1003), (1, .ref 0), (2, .ref 21), (3, .ref 35), (4, .ref 36), (5, .int (nI ii))] [] (hp (va_up (va_up I 26 0) 29 0) (va_up A 22 (upd (A 22) (6 * j + k) (X.2 (ii + 3)))) L O) bC bS Q) : AW X 234 411 [(0, .ref 1003), (1, .ref 0), (2, .ref 21), (3, .ref 35), (4, .ref 36), (5, .int (nI ii)), (6, .int ev)] [] (hp I A L O) (bC + 1) (bS + 1) Q := by
  refine a_aload_n (i := 2) q234_411 rfl rfl ?_
  refine a_aload_n (i := 0) q234_412 rfl rfl ?_
  refine a_iload q234_413 rfl ?_
  refine a_iconst (v := 1) q234_415 (by decide) ?_
  refine a_iadd q234_416 ?_
  refine a_scr (k := ii + 1) q234_417 (nI_add ii 1) (by omega) hX ?_
  refine a_aload_n (i := 0) q234_418 rfl rfl ?_
  refine a_iload q234_419 rfl ?_
  refine a_iconst (v := 2) q234_421 (by decide) ?_
  refine a_iadd q234_422 ?_
  refine a_scr (k := ii + 2) q234_423 (nI_add ii 2) (by omega) hX ?_
  refine a_aload_n (i := 0) q234_424 rfl rfl ?_
  refine a_iload q234_425 rfl ?_
  refine a_iconst (v := 3) q234_427 (by decide) ?_
  refine a_iadd q234_428 ?_
  refine a_scr (k := ii + 3) q234_429 (nI_add ii 3) (by omega) hX ?_
  refine a_cv3 q234_430 rfl rfl ⟨rfl, rfl⟩ rfl ?_
  refine c_X10_put (hn := hn) (hn40 := hn40) (h1 := fun y0 => ?_) (h2 := fun y0 y1 => ?_) (h3 := fun j k y2 y3 y4 y5 y6 => ?_)
  · skip
    obtain ⟨ze, zk⟩ := h1 y0
    subst ze
    refine ck_r ?_
    refine a_istore (i := 7) (lv' := [(0, _), (1, _), (2, _), (3, _), (4, _), (5, _), (6, _), (7, _)]) q234_433 rfl rfl ?_
    refine a_aload_n (i := 2) q234_435 rfl rfl ?_
    refine a_cv0 q234_436 rfl rfl ⟨rfl, rfl⟩ rfl ?_
    refine c_X10_thrown ?_
    refine ck_r ?_
    refine AW.ti (show _ = (1 : Int32) from rfl) ?_
    refine a_iload q234_439 rfl ?_
    refine a_icmp_eq (tgt := 446) q234_441 (by decide) (fun zc441 => ?_) (fun zc441 => absurd (rfl) zc441)
    refine a_iload q234_446 rfl ?_
    refine a_if_ne (tgt := 463) q234_448 (by decide) (fun zc448 => ?_) (fun zc448 => absurd zc448 (by decide))
    refine a_goto (tgt := 2206) q234_463 (by decide) ?_
    refine AW.pop_less (x := (7, _)) (lv' := [(0, _), (1, _), (2, _), (3, _), (4, _), (5, _), (6, _)]) ?_
    refine AW.pop_less (x := (6, _)) (lv' := [(0, _), (1, _), (2, _), (3, _), (4, _), (5, _)]) ?_
    exact AW.wide (bc' := bC) (bs' := bS) (show bC ≤ bC + 1 from Nat.le_succ bC) (show bS ≤ bS + 1 from Nat.le_succ bS) zk
  · skip
    obtain ⟨ze, zk⟩ := h2 y0 y1
    subst ze
    refine ck_r ?_
    refine a_istore (i := 7) (lv' := [(0, _), (1, _), (2, _), (3, _), (4, _), (5, _), (6, _), (7, _)]) q234_433 rfl rfl ?_
    refine a_aload_n (i := 2) q234_435 rfl rfl ?_
    refine a_cv0 q234_436 rfl rfl ⟨rfl, rfl⟩ rfl ?_
    refine c_X10_thrown ?_
    refine ck_r ?_
    refine AW.ti (show _ = (2 : Int32) from rfl) ?_
    refine a_iload q234_439 rfl ?_
    refine a_icmp_eq (tgt := 446) q234_441 (by decide) (fun zc441 => ?_) (fun zc441 => absurd (rfl) zc441)
    refine a_iload q234_446 rfl ?_
    refine a_if_ne (tgt := 463) q234_448 (by decide) (fun zc448 => ?_) (fun zc448 => absurd zc448 (by decide))
    refine a_goto (tgt := 2206) q234_463 (by decide) ?_
    refine AW.pop_less (x := (7, _)) (lv' := [(0, _), (1, _), (2, _), (3, _), (4, _), (5, _), (6, _)]) ?_
    refine AW.pop_less (x := (6, _)) (lv' := [(0, _), (1, _), (2, _), (3, _), (4, _), (5, _)]) ?_
    exact AW.wide (bc' := bC) (bs' := bS) (show bC ≤ bC + 1 from Nat.le_succ bC) (show bS ≤ bS + 1 from Nat.le_succ bS) zk
  · skip
    obtain ⟨ze, zv, zk⟩ := h3 j k y2 y3 y4 y5 y6
    subst ze
    refine ck_r ?_
    refine a_istore (i := 7) (lv' := [(0, _), (1, _), (2, _), (3, _), (4, _), (5, _), (6, _), (7, _)]) q234_433 rfl rfl ?_
    refine a_aload_n (i := 2) q234_435 rfl rfl ?_
    refine a_cv0 q234_436 rfl rfl ⟨rfl, rfl⟩ rfl ?_
    refine c_X10_thrown ?_
    refine ck_r ?_
    refine AW.ti (show _ = (0 : Int32) from rfl) ?_
    refine a_iload q234_439 rfl ?_
    refine a_icmp_eq (tgt := 446) q234_441 (by decide) (fun zc441 => ?_) (fun zc441 => absurd (rfl) zc441)
    refine a_iload q234_446 rfl ?_
    refine a_if_ne (tgt := 463) q234_448 (by decide) (fun zc448 => absurd zc448 (by decide)) (fun zc448 => ?_)
    refine a_aload_n (i := 3) q234_451 rfl rfl ?_
    refine a_iconst (v := 0) q234_452 (by decide) ?_
    refine a_lald' (j := 0) q234_453 rfl rfl (by decide) (by decide) ?_
    refine AW.tl zv ?_
    refine a_iload q234_454 rfl ?_
    refine a_i2l q234_456 ?_
    refine a_lcmp q234_457 ?_
    refine a_if_eq (tgt := 463) q234_458 (by decide) (fun zc458 => ?_) (fun zc458 => absurd ((lg_cmp_eq _ _).mpr rfl) zc458)
    refine a_goto (tgt := 2206) q234_463 (by decide) ?_
    refine AW.pop_less (x := (7, _)) (lv' := [(0, _), (1, _), (2, _), (3, _), (4, _), (5, _), (6, _)]) ?_
    refine AW.pop_less (x := (6, _)) (lv' := [(0, _), (1, _), (2, _), (3, _), (4, _), (5, _)]) ?_
    exact AW.wide (bc' := bC) (bs' := bS) (show bC ≤ bC + 1 from Nat.le_succ bC) (show bS ≤ bS + 1 from Nat.le_succ bS) zk

theorem opB_rows {X : XS} {I : Nat → Int32} {A : Nat → Nat → Int32} {L : Nat → Nat → Int64} {O : Nat → UInt64} {Q : AO → AH → Prop} {ii bC bS : Nat} {ev : Int32} (hX : X.1 ≤ 3584) (hi : ii + 7 ≤ X.1)  (hq : ev = (I 20) ∧ AW X 234 2206 [(0, .ref 1003), (1, .ref 0), (2, .ref 21), (3, .ref 35), (4, .ref 36), (5, .int (nI ii))] [] (hp (va_up I 26 0) A L O) bC bS Q) : AW X 234 470 [(0, .ref 1003), (1, .ref 0), (2, .ref 21), (3, .ref 35), (4, .ref 36), (5, .int (nI ii))] [.int ev] (hp I A L O) (bC + 1) (bS + 1) Q := by
  refine a_aload_n (i := 2) q234_470 rfl rfl ?_
  refine a_cv0 q234_471 rfl rfl ⟨rfl, rfl⟩ rfl ?_
  refine c_X10_rows  (hq := ?_)
  · skip
    obtain ⟨ze, zk⟩ := hq
    subst ze
    refine ck_r ?_
    refine a_icmp_eq (tgt := 2206) q234_474 (by decide) (fun zc474 => ?_) (fun zc474 => absurd (rfl) zc474)
    
    exact AW.wide (bc' := bC) (bs' := bS) (show bC ≤ bC + 1 from Nat.le_succ bC) (show bS ≤ bS + 1 from Nat.le_succ bS) zk

theorem opB_different {X : XS} {I : Nat → Int32} {A : Nat → Nat → Int32} {L : Nat → Nat → Int64} {O : Nat → UInt64} {Q : AO → AH → Prop} {ii bC bS : Nat} {ev : Int32} (hX : X.1 ≤ 3584) (hi : ii + 7 ≤ X.1) {n : Nat} (hn : I 20 = nI n) (hn40 : n ≤ 40) (h1 : ¬ isCol (X.2 (ii + 1)) → ev = 1 ∧ AW X 234 2206 [(0, .ref 1003), (1, .ref 0), (2, .ref 21), (3, .ref 35), (4, .ref 36), (5, .int (nI ii))] [] (hp (va_up I 26 1) A L O) bC bS Q) (h0 : ∀ j, j < 6 → (X.2 (ii + 1)) = nI j → ev = 0 ∧ L 35 0 = ((stDif (mv A j) n)).toInt64 ∧ AW X 234 2206 [(0, .ref 1003), (1, .ref 0), (2, .ref 21), (3, .ref 35), (4, .ref 36), (5, .int (nI ii))] [] (hp (va_up I 26 0) A L O) bC bS Q) : AW X 234 492 [(0, .ref 1003), (1, .ref 0), (2, .ref 21), (3, .ref 35), (4, .ref 36), (5, .int (nI ii)), (6, .int ev)] [] (hp I A L O) (bC + 1) (bS + 1) Q := by
  refine a_aload_n (i := 2) q234_492 rfl rfl ?_
  refine a_aload_n (i := 0) q234_493 rfl rfl ?_
  refine a_iload q234_494 rfl ?_
  refine a_iconst (v := 1) q234_496 (by decide) ?_
  refine a_iadd q234_497 ?_
  refine a_scr (k := ii + 1) q234_498 (nI_add ii 1) (by omega) hX ?_
  refine a_cv1 q234_499 rfl rfl ⟨rfl, rfl⟩ rfl ?_
  refine c_X10_different (hn := hn) (hn40 := hn40) (h1 := fun y0 => ?_) (h0 := fun j y1 y2 => ?_)
  · skip
    obtain ⟨ze, zk⟩ := h1 y0
    subst ze
    refine ck_r ?_
    refine a_istore (i := 7) (lv' := [(0, _), (1, _), (2, _), (3, _), (4, _), (5, _), (6, _), (7, _)]) q234_502 rfl rfl ?_
    refine a_aload_n (i := 2) q234_504 rfl rfl ?_
    refine a_cv0 q234_505 rfl rfl ⟨rfl, rfl⟩ rfl ?_
    refine c_X10_thrown ?_
    refine ck_r ?_
    refine AW.ti (show _ = (1 : Int32) from rfl) ?_
    refine a_iload q234_508 rfl ?_
    refine a_icmp_eq (tgt := 515) q234_510 (by decide) (fun zc510 => ?_) (fun zc510 => absurd (rfl) zc510)
    refine a_iload q234_515 rfl ?_
    refine a_if_ne (tgt := 532) q234_517 (by decide) (fun zc517 => ?_) (fun zc517 => absurd zc517 (by decide))
    refine a_goto (tgt := 2206) q234_532 (by decide) ?_
    refine AW.pop_less (x := (7, _)) (lv' := [(0, _), (1, _), (2, _), (3, _), (4, _), (5, _), (6, _)]) ?_
    refine AW.pop_less (x := (6, _)) (lv' := [(0, _), (1, _), (2, _), (3, _), (4, _), (5, _)]) ?_
    exact AW.wide (bc' := bC) (bs' := bS) (show bC ≤ bC + 1 from Nat.le_succ bC) (show bS ≤ bS + 1 from Nat.le_succ bS) zk
  · skip
    obtain ⟨ze, zv, zk⟩ := h0 j y1 y2
    subst ze
    refine ck_r ?_
    refine a_istore (i := 7) (lv' := [(0, _), (1, _), (2, _), (3, _), (4, _), (5, _), (6, _), (7, _)]) q234_502 rfl rfl ?_
    refine a_aload_n (i := 2) q234_504 rfl rfl ?_
    refine a_cv0 q234_505 rfl rfl ⟨rfl, rfl⟩ rfl ?_
    refine c_X10_thrown ?_
    refine ck_r ?_
    refine AW.ti (show _ = (0 : Int32) from rfl) ?_
    refine a_iload q234_508 rfl ?_
    refine a_icmp_eq (tgt := 515) q234_510 (by decide) (fun zc510 => ?_) (fun zc510 => absurd (rfl) zc510)
    refine a_iload q234_515 rfl ?_
    refine a_if_ne (tgt := 532) q234_517 (by decide) (fun zc517 => absurd zc517 (by decide)) (fun zc517 => ?_)
    refine a_aload_n (i := 3) q234_520 rfl rfl ?_
    refine a_iconst (v := 0) q234_521 (by decide) ?_
    refine a_lald' (j := 0) q234_522 rfl rfl (by decide) (by decide) ?_
    refine AW.tl zv ?_
    refine a_iload q234_523 rfl ?_
    refine a_i2l q234_525 ?_
    refine a_lcmp q234_526 ?_
    refine a_if_eq (tgt := 532) q234_527 (by decide) (fun zc527 => ?_) (fun zc527 => absurd ((lg_cmp_eq _ _).mpr rfl) zc527)
    refine a_goto (tgt := 2206) q234_532 (by decide) ?_
    refine AW.pop_less (x := (7, _)) (lv' := [(0, _), (1, _), (2, _), (3, _), (4, _), (5, _), (6, _)]) ?_
    refine AW.pop_less (x := (6, _)) (lv' := [(0, _), (1, _), (2, _), (3, _), (4, _), (5, _)]) ?_
    exact AW.wide (bc' := bC) (bs' := bS) (show bC ≤ bC + 1 from Nat.le_succ bC) (show bS ≤ bS + 1 from Nat.le_succ bS) zk

theorem opB_sumOf {X : XS} {I : Nat → Int32} {A : Nat → Nat → Int32} {L : Nat → Nat → Int64} {O : Nat → UInt64} {Q : AO → AH → Prop} {ii bC bS : Nat} {ev : Int32} (hX : X.1 ≤ 3584) (hi : ii + 7 ≤ X.1) {n : Nat} (hn : I 20 = nI n) (hn40 : n ≤ 40) (h1 : ¬ isCol (X.2 (ii + 1)) → ev = 1 ∧ AW X 234 2206 [(0, .ref 1003), (1, .ref 0), (2, .ref 21), (3, .ref 35), (4, .ref 36), (5, .int (nI ii))] [] (hp (va_up I 26 1) A L O) bC bS Q) (h0 : ∀ j, j < 6 → (X.2 (ii + 1)) = nI j → ev = 0 ∧ L 35 0 = (stSum (mv A j) n) ∧ AW X 234 2206 [(0, .ref 1003), (1, .ref 0), (2, .ref 21), (3, .ref 35), (4, .ref 36), (5, .int (nI ii))] [] (hp (va_up I 26 0) A L O) bC bS Q) : AW X 234 548 [(0, .ref 1003), (1, .ref 0), (2, .ref 21), (3, .ref 35), (4, .ref 36), (5, .int (nI ii)), (6, .int ev)] [] (hp I A L O) (bC + 1) (bS + 1) Q := by
  refine a_aload_n (i := 2) q234_548 rfl rfl ?_
  refine a_aload_n (i := 0) q234_549 rfl rfl ?_
  refine a_iload q234_550 rfl ?_
  refine a_iconst (v := 1) q234_552 (by decide) ?_
  refine a_iadd q234_553 ?_
  refine a_scr (k := ii + 1) q234_554 (nI_add ii 1) (by omega) hX ?_
  refine a_cv1 q234_555 rfl rfl ⟨rfl, rfl⟩ rfl ?_
  refine c_X10_sumOf (hn := hn) (hn40 := hn40) (h1 := fun y0 => ?_) (h0 := fun j y1 y2 => ?_)
  · skip
    obtain ⟨ze, zk⟩ := h1 y0
    subst ze
    refine ck_r ?_
    refine a_lstore (i := 7) (lv' := [(0, _), (1, _), (2, _), (3, _), (4, _), (5, _), (6, _), (7, _)]) q234_558 rfl rfl ?_
    refine a_aload_n (i := 2) q234_560 rfl rfl ?_
    refine a_cv0 q234_561 rfl rfl ⟨rfl, rfl⟩ rfl ?_
    refine c_X10_thrown ?_
    refine ck_r ?_
    refine AW.ti (show _ = (1 : Int32) from rfl) ?_
    refine a_iload q234_564 rfl ?_
    refine a_icmp_eq (tgt := 571) q234_566 (by decide) (fun zc566 => ?_) (fun zc566 => absurd (rfl) zc566)
    refine a_iload q234_571 rfl ?_
    refine a_if_ne (tgt := 587) q234_573 (by decide) (fun zc573 => ?_) (fun zc573 => absurd zc573 (by decide))
    refine a_goto (tgt := 2206) q234_587 (by decide) ?_
    refine AW.pop_less (x := (7, _)) (lv' := [(0, _), (1, _), (2, _), (3, _), (4, _), (5, _), (6, _)]) ?_
    refine AW.pop_less (x := (6, _)) (lv' := [(0, _), (1, _), (2, _), (3, _), (4, _), (5, _)]) ?_
    exact AW.wide (bc' := bC) (bs' := bS) (show bC ≤ bC + 1 from Nat.le_succ bC) (show bS ≤ bS + 1 from Nat.le_succ bS) zk
  · skip
    obtain ⟨ze, zv, zk⟩ := h0 j y1 y2
    subst ze
    refine ck_r ?_
    refine a_lstore (i := 7) (lv' := [(0, _), (1, _), (2, _), (3, _), (4, _), (5, _), (6, _), (7, _)]) q234_558 rfl rfl ?_
    refine a_aload_n (i := 2) q234_560 rfl rfl ?_
    refine a_cv0 q234_561 rfl rfl ⟨rfl, rfl⟩ rfl ?_
    refine c_X10_thrown ?_
    refine ck_r ?_
    refine AW.ti (show _ = (0 : Int32) from rfl) ?_
    refine a_iload q234_564 rfl ?_
    refine a_icmp_eq (tgt := 571) q234_566 (by decide) (fun zc566 => ?_) (fun zc566 => absurd (rfl) zc566)
    refine a_iload q234_571 rfl ?_
    refine a_if_ne (tgt := 587) q234_573 (by decide) (fun zc573 => absurd zc573 (by decide)) (fun zc573 => ?_)
    refine a_aload_n (i := 3) q234_576 rfl rfl ?_
    refine a_iconst (v := 0) q234_577 (by decide) ?_
    refine a_lald' (j := 0) q234_578 rfl rfl (by decide) (by decide) ?_
    refine AW.tl zv ?_
    refine a_lload q234_579 rfl ?_
    refine a_lcmp q234_581 ?_
    refine a_if_eq (tgt := 587) q234_582 (by decide) (fun zc582 => ?_) (fun zc582 => absurd ((lg_cmp_eq _ _).mpr rfl) zc582)
    refine a_goto (tgt := 2206) q234_587 (by decide) ?_
    refine AW.pop_less (x := (7, _)) (lv' := [(0, _), (1, _), (2, _), (3, _), (4, _), (5, _), (6, _)]) ?_
    refine AW.pop_less (x := (6, _)) (lv' := [(0, _), (1, _), (2, _), (3, _), (4, _), (5, _)]) ?_
    exact AW.wide (bc' := bC) (bs' := bS) (show bC ≤ bC + 1 from Nat.le_succ bC) (show bS ≤ bS + 1 from Nat.le_succ bS) zk

theorem opB_meanOf {X : XS} {I : Nat → Int32} {A : Nat → Nat → Int32} {L : Nat → Nat → Int64} {O : Nat → UInt64} {Q : AO → AH → Prop} {ii bC bS : Nat} {ev : Int32} (hX : X.1 ≤ 3584) (hi : ii + 7 ≤ X.1) {n : Nat} (hn : I 20 = nI n) (hn40 : n ≤ 40) (hne : ∀ j, j < 6 → (X.2 (ii + 1)) = nI j → ¬ stCnt (mv A j) n = 0 → vf_n64 (FP.ddiv (FP.l2d (stSum (mv A j) n)) (FP.i2d (stCnt (mv A j) n)))) (h1 : ¬ isCol (X.2 (ii + 1)) → ev = 1 ∧ AW X 234 2206 [(0, .ref 1003), (1, .ref 0), (2, .ref 21), (3, .ref 35), (4, .ref 36), (5, .int (nI ii))] [] (hp (va_up I 26 1) A L O) bC bS Q) (h2 : ∀ j, j < 6 → (X.2 (ii + 1)) = nI j → stCnt (mv A j) n = 0 → ev = 2 ∧ AW X 234 2206 [(0, .ref 1003), (1, .ref 0), (2, .ref 21), (3, .ref 35), (4, .ref 36), (5, .int (nI ii))] [] (hp (va_up I 26 2) A L O) bC bS Q) (h0 : ∀ j, j < 6 → (X.2 (ii + 1)) = nI j → ¬ stCnt (mv A j) n = 0 → ev = 0 ∧ O 0 = (FP.ddiv (FP.l2d (stSum (mv A j) n)) (FP.i2d (stCnt (mv A j) n))) ∧ AW X 234 2206 [(0, .ref 1003), (1, .ref 0), (2, .ref 21), (3, .ref 35), (4, .ref 36), (5, .int (nI ii))] [] (hp (va_up I 26 0) A L O) bC bS Q) : AW X 234 604 [(0, .ref 1003), (1, .ref 0), (2, .ref 21), (3, .ref 35), (4, .ref 36), (5, .int (nI ii)), (6, .int ev)] [] (hp I A L O) (bC + 1) (bS + 1) Q := by
  refine a_aload_n (i := 2) q234_604 rfl rfl ?_
  refine a_aload_n (i := 0) q234_605 rfl rfl ?_
  refine a_iload q234_606 rfl ?_
  refine a_iconst (v := 1) q234_608 (by decide) ?_
  refine a_iadd q234_609 ?_
  refine a_scr (k := ii + 1) q234_610 (nI_add ii 1) (by omega) hX ?_
  refine a_cv1 q234_611 rfl rfl ⟨rfl, rfl⟩ rfl ?_
  refine c_X10_meanOf (hn := hn) (hn40 := hn40) (hne := hne) (h1 := fun y0 => ?_) (h2 := fun j y1 y2 y3 => ?_) (h0 := fun j y1 y2 y3 => ?_)
  · skip
    obtain ⟨ze, zk⟩ := h1 y0
    subst ze
    refine ck_r ?_
    refine a_dstore (i := 7) (lv' := [(0, _), (1, _), (2, _), (3, _), (4, _), (5, _), (6, _), (7, _)]) q234_614 rfl rfl ?_
    refine a_aload_n (i := 2) q234_616 rfl rfl ?_
    refine a_cv0 q234_617 rfl rfl ⟨rfl, rfl⟩ rfl ?_
    refine c_X10_thrown ?_
    refine ck_r ?_
    refine AW.ti (show _ = (1 : Int32) from rfl) ?_
    refine a_iload q234_620 rfl ?_
    refine a_icmp_eq (tgt := 627) q234_622 (by decide) (fun zc622 => ?_) (fun zc622 => absurd (rfl) zc622)
    refine a_iload q234_627 rfl ?_
    refine a_if_ne (tgt := 664) q234_629 (by decide) (fun zc629 => ?_) (fun zc629 => absurd zc629 (by decide))
    refine a_goto (tgt := 2206) q234_664 (by decide) ?_
    refine AW.pop_less (x := (7, _)) (lv' := [(0, _), (1, _), (2, _), (3, _), (4, _), (5, _), (6, _)]) ?_
    refine AW.pop_less (x := (6, _)) (lv' := [(0, _), (1, _), (2, _), (3, _), (4, _), (5, _)]) ?_
    exact AW.wide (bc' := bC) (bs' := bS) (show bC ≤ bC + 1 from Nat.le_succ bC) (show bS ≤ bS + 1 from Nat.le_succ bS) zk
  · skip
    obtain ⟨ze, zk⟩ := h2 j y1 y2 y3
    subst ze
    refine ck_r ?_
    refine a_dstore (i := 7) (lv' := [(0, _), (1, _), (2, _), (3, _), (4, _), (5, _), (6, _), (7, _)]) q234_614 rfl rfl ?_
    refine a_aload_n (i := 2) q234_616 rfl rfl ?_
    refine a_cv0 q234_617 rfl rfl ⟨rfl, rfl⟩ rfl ?_
    refine c_X10_thrown ?_
    refine ck_r ?_
    refine AW.ti (show _ = (2 : Int32) from rfl) ?_
    refine a_iload q234_620 rfl ?_
    refine a_icmp_eq (tgt := 627) q234_622 (by decide) (fun zc622 => ?_) (fun zc622 => absurd (rfl) zc622)
    refine a_iload q234_627 rfl ?_
    refine a_if_ne (tgt := 664) q234_629 (by decide) (fun zc629 => ?_) (fun zc629 => absurd zc629 (by decide))
    refine a_goto (tgt := 2206) q234_664 (by decide) ?_
    refine AW.pop_less (x := (7, _)) (lv' := [(0, _), (1, _), (2, _), (3, _), (4, _), (5, _), (6, _)]) ?_
    refine AW.pop_less (x := (6, _)) (lv' := [(0, _), (1, _), (2, _), (3, _), (4, _), (5, _)]) ?_
    exact AW.wide (bc' := bC) (bs' := bS) (show bC ≤ bC + 1 from Nat.le_succ bC) (show bS ≤ bS + 1 from Nat.le_succ bS) zk
  · skip
    obtain ⟨ze, zv, zk⟩ := h0 j y1 y2 y3
    subst ze
    refine ck_r ?_
    refine a_dstore (i := 7) (lv' := [(0, _), (1, _), (2, _), (3, _), (4, _), (5, _), (6, _), (7, _)]) q234_614 rfl rfl ?_
    refine a_aload_n (i := 2) q234_616 rfl rfl ?_
    refine a_cv0 q234_617 rfl rfl ⟨rfl, rfl⟩ rfl ?_
    refine c_X10_thrown ?_
    refine ck_r ?_
    refine AW.ti (show _ = (0 : Int32) from rfl) ?_
    refine a_iload q234_620 rfl ?_
    refine a_icmp_eq (tgt := 627) q234_622 (by decide) (fun zc622 => ?_) (fun zc622 => absurd (rfl) zc622)
    refine a_iload q234_627 rfl ?_
    refine a_if_ne (tgt := 664) q234_629 (by decide) (fun zc629 => absurd zc629 (by decide)) (fun zc629 => ?_)
    refine a_aload q234_632 rfl ?_
    refine a_iconst (v := 0) q234_634 (by decide) ?_
    refine a_dald0 q234_635 rfl ?_
    refine AW.td zv ?_
    refine a_dload q234_636 rfl ?_
    refine a_dcmp q234_638 ?_
    refine a_if_eq (tgt := 664) q234_639 (by decide) (fun zc639 => ?_) (fun zc639 => ?_)
    · skip
      refine a_goto (tgt := 2206) q234_664 (by decide) ?_
      refine AW.pop_less (x := (7, _)) (lv' := [(0, _), (1, _), (2, _), (3, _), (4, _), (5, _), (6, _)]) ?_
      refine AW.pop_less (x := (6, _)) (lv' := [(0, _), (1, _), (2, _), (3, _), (4, _), (5, _)]) ?_
      exact AW.wide (bc' := bC) (bs' := bS) (show bC ≤ bC + 1 from Nat.le_succ bC) (show bS ≤ bS + 1 from Nat.le_succ bS) zk
    · skip
      refine a_aload q234_642 rfl ?_
      refine a_iconst (v := 0) q234_644 (by decide) ?_
      refine a_dald0 q234_645 rfl ?_
      refine AW.td zv ?_
      refine a_aload q234_646 rfl ?_
      refine a_iconst (v := 0) q234_648 (by decide) ?_
      refine a_dald0 q234_649 rfl ?_
      refine AW.td zv ?_
      refine a_dcmp q234_650 ?_
      refine a_if_eq (tgt := 662) q234_651 (by decide) (fun zc651 => absurd zc651 (zc639)) (fun zc651 => ?_)
      refine a_dload q234_654 rfl ?_
      refine a_dload q234_656 rfl ?_
      refine a_dcmp q234_658 ?_
      refine a_if_ne (tgt := 664) q234_659 (by decide) (fun zc659 => ?_) (fun zc659 => absurd zc659 (zc639))
      refine a_goto (tgt := 2206) q234_664 (by decide) ?_
      refine AW.pop_less (x := (7, _)) (lv' := [(0, _), (1, _), (2, _), (3, _), (4, _), (5, _), (6, _)]) ?_
      refine AW.pop_less (x := (6, _)) (lv' := [(0, _), (1, _), (2, _), (3, _), (4, _), (5, _)]) ?_
      exact AW.wide (bc' := bC) (bs' := bS) (show bC ≤ bC + 1 from Nat.le_succ bC) (show bS ≤ bS + 1 from Nat.le_succ bS) zk

theorem opB_filled {X : XS} {I : Nat → Int32} {A : Nat → Nat → Int32} {L : Nat → Nat → Int64} {O : Nat → UInt64} {Q : AO → AH → Prop} {ii bC bS : Nat} {ev : Int32} (hX : X.1 ≤ 3584) (hi : ii + 7 ≤ X.1) {n : Nat} (hn : I 20 = nI n) (hn40 : n ≤ 40) (hne : ∀ j, j < 6 → (X.2 (ii + 1)) = nI j → ¬ n = 0 → vf_n32 (FP.fdiv (FP.i2f (stCnt (mv A j) n)) (FP.i2f (nI n)))) (hn2 : ∀ j, j < 6 → (X.2 (ii + 1)) = nI j → ¬ n = 0 → vf_n64 (FP.f2d (FP.fdiv (FP.i2f (stCnt (mv A j) n)) (FP.i2f (nI n)))) ∧ Op.cmpValue (FP.dcmp (FP.f2d (FP.fdiv (FP.i2f (stCnt (mv A j) n)) (FP.i2f (nI n)))) (FP.f2d (FP.fdiv (FP.i2f (stCnt (mv A j) n)) (FP.i2f (nI n))))) .l = 0) (h1 : ¬ isCol (X.2 (ii + 1)) → ev = 1 ∧ AW X 234 2206 [(0, .ref 1003), (1, .ref 0), (2, .ref 21), (3, .ref 35), (4, .ref 36), (5, .int (nI ii))] [] (hp (va_up I 26 1) A L O) bC bS Q) (h2 : ∀ j, j < 6 → (X.2 (ii + 1)) = nI j → n = 0 → ev = 2 ∧ AW X 234 2206 [(0, .ref 1003), (1, .ref 0), (2, .ref 21), (3, .ref 35), (4, .ref 36), (5, .int (nI ii))] [] (hp (va_up I 26 2) A L O) bC bS Q) (h0 : ∀ j, j < 6 → (X.2 (ii + 1)) = nI j → ¬ n = 0 → ev = 0 ∧ O 0 = (FP.f2d (FP.fdiv (FP.i2f (stCnt (mv A j) n)) (FP.i2f (nI n)))) ∧ AW X 234 2206 [(0, .ref 1003), (1, .ref 0), (2, .ref 21), (3, .ref 35), (4, .ref 36), (5, .int (nI ii))] [] (hp (va_up I 26 0) A L O) bC bS Q) : AW X 234 681 [(0, .ref 1003), (1, .ref 0), (2, .ref 21), (3, .ref 35), (4, .ref 36), (5, .int (nI ii)), (6, .int ev)] [] (hp I A L O) (bC + 1) (bS + 1) Q := by
  refine a_aload_n (i := 2) q234_681 rfl rfl ?_
  refine a_aload_n (i := 0) q234_682 rfl rfl ?_
  refine a_iload q234_683 rfl ?_
  refine a_iconst (v := 1) q234_685 (by decide) ?_
  refine a_iadd q234_686 ?_
  refine a_scr (k := ii + 1) q234_687 (nI_add ii 1) (by omega) hX ?_
  refine a_cv1 q234_688 rfl rfl ⟨rfl, rfl⟩ rfl ?_
  refine c_X10_filled (hn := hn) (hn40 := hn40) (hne := hne) (h1 := fun y0 => ?_) (h2 := fun j y1 y2 y3 => ?_) (h0 := fun j y1 y2 y3 => ?_)
  · skip
    obtain ⟨ze, zk⟩ := h1 y0
    subst ze
    refine ck_r ?_
    refine a_fstore (i := 7) (lv' := [(0, _), (1, _), (2, _), (3, _), (4, _), (5, _), (6, _), (7, _)]) q234_691 rfl rfl ?_
    refine a_aload_n (i := 2) q234_693 rfl rfl ?_
    refine a_cv0 q234_694 rfl rfl ⟨rfl, rfl⟩ rfl ?_
    refine c_X10_thrown ?_
    refine ck_r ?_
    refine AW.ti (show _ = (1 : Int32) from rfl) ?_
    refine a_iload q234_697 rfl ?_
    refine a_icmp_eq (tgt := 704) q234_699 (by decide) (fun zc699 => ?_) (fun zc699 => absurd (rfl) zc699)
    refine a_iload q234_704 rfl ?_
    refine a_if_ne (tgt := 742) q234_706 (by decide) (fun zc706 => ?_) (fun zc706 => absurd zc706 (by decide))
    refine a_goto (tgt := 2206) q234_742 (by decide) ?_
    refine AW.pop_less (x := (7, _)) (lv' := [(0, _), (1, _), (2, _), (3, _), (4, _), (5, _), (6, _)]) ?_
    refine AW.pop_less (x := (6, _)) (lv' := [(0, _), (1, _), (2, _), (3, _), (4, _), (5, _)]) ?_
    exact AW.wide (bc' := bC) (bs' := bS) (show bC ≤ bC + 1 from Nat.le_succ bC) (show bS ≤ bS + 1 from Nat.le_succ bS) zk
  · skip
    obtain ⟨ze, zk⟩ := h2 j y1 y2 y3
    subst ze
    refine ck_r ?_
    refine a_fstore (i := 7) (lv' := [(0, _), (1, _), (2, _), (3, _), (4, _), (5, _), (6, _), (7, _)]) q234_691 rfl rfl ?_
    refine a_aload_n (i := 2) q234_693 rfl rfl ?_
    refine a_cv0 q234_694 rfl rfl ⟨rfl, rfl⟩ rfl ?_
    refine c_X10_thrown ?_
    refine ck_r ?_
    refine AW.ti (show _ = (2 : Int32) from rfl) ?_
    refine a_iload q234_697 rfl ?_
    refine a_icmp_eq (tgt := 704) q234_699 (by decide) (fun zc699 => ?_) (fun zc699 => absurd (rfl) zc699)
    refine a_iload q234_704 rfl ?_
    refine a_if_ne (tgt := 742) q234_706 (by decide) (fun zc706 => ?_) (fun zc706 => absurd zc706 (by decide))
    refine a_goto (tgt := 2206) q234_742 (by decide) ?_
    refine AW.pop_less (x := (7, _)) (lv' := [(0, _), (1, _), (2, _), (3, _), (4, _), (5, _), (6, _)]) ?_
    refine AW.pop_less (x := (6, _)) (lv' := [(0, _), (1, _), (2, _), (3, _), (4, _), (5, _)]) ?_
    exact AW.wide (bc' := bC) (bs' := bS) (show bC ≤ bC + 1 from Nat.le_succ bC) (show bS ≤ bS + 1 from Nat.le_succ bS) zk
  · skip
    obtain ⟨ze, zv, zk⟩ := h0 j y1 y2 y3
    subst ze
    refine ck_r ?_
    refine a_fstore (i := 7) (lv' := [(0, _), (1, _), (2, _), (3, _), (4, _), (5, _), (6, _), (7, _)]) q234_691 rfl rfl ?_
    refine a_aload_n (i := 2) q234_693 rfl rfl ?_
    refine a_cv0 q234_694 rfl rfl ⟨rfl, rfl⟩ rfl ?_
    refine c_X10_thrown ?_
    refine ck_r ?_
    refine AW.ti (show _ = (0 : Int32) from rfl) ?_
    refine a_iload q234_697 rfl ?_
    refine a_icmp_eq (tgt := 704) q234_699 (by decide) (fun zc699 => ?_) (fun zc699 => absurd (rfl) zc699)
    refine a_iload q234_704 rfl ?_
    refine a_if_ne (tgt := 742) q234_706 (by decide) (fun zc706 => absurd zc706 (by decide)) (fun zc706 => ?_)
    refine a_aload q234_709 rfl ?_
    refine a_iconst (v := 0) q234_711 (by decide) ?_
    refine a_dald0 q234_712 rfl ?_
    refine AW.td zv ?_
    refine a_fload q234_713 rfl ?_
    refine a_f2d q234_715 (hn2 j y1 y2 y3).1 ?_
    refine a_dcmp q234_716 ?_
    refine a_if_eq (tgt := 742) q234_717 (by decide) (fun zc717 => ?_) (fun zc717 => absurd ((hn2 j y1 y2 y3).2) zc717)
    refine a_goto (tgt := 2206) q234_742 (by decide) ?_
    refine AW.pop_less (x := (7, _)) (lv' := [(0, _), (1, _), (2, _), (3, _), (4, _), (5, _), (6, _)]) ?_
    refine AW.pop_less (x := (6, _)) (lv' := [(0, _), (1, _), (2, _), (3, _), (4, _), (5, _)]) ?_
    exact AW.wide (bc' := bC) (bs' := bS) (show bC ≤ bC + 1 from Nat.le_succ bC) (show bS ≤ bS + 1 from Nat.le_succ bS) zk

theorem opB_kindOf {X : XS} {I : Nat → Int32} {A : Nat → Nat → Int32} {L : Nat → Nat → Int64} {O : Nat → UInt64} {Q : AO → AH → Prop} {ii bC bS : Nat} {ev : Int32} (hX : X.1 ≤ 3584) (hi : ii + 7 ≤ X.1) {n : Nat} (hn : I 20 = nI n) (hn40 : n ≤ 40) (h1 : ¬ isCol (X.2 (ii + 1)) → ev = 1 ∧ AW X 234 2206 [(0, .ref 1003), (1, .ref 0), (2, .ref 21), (3, .ref 35), (4, .ref 36), (5, .int (nI ii))] [] (hp (va_up I 26 1) A L O) bC bS Q) (h0 : ∀ j, j < 6 → (X.2 (ii + 1)) = nI j → ev = 0 ∧ L 35 0 = ((mkd A n j)).toInt64 ∧ AW X 234 2206 [(0, .ref 1003), (1, .ref 0), (2, .ref 21), (3, .ref 35), (4, .ref 36), (5, .int (nI ii))] [] (hp (va_up I 26 0) A L O) bC bS Q) : AW X 234 758 [(0, .ref 1003), (1, .ref 0), (2, .ref 21), (3, .ref 35), (4, .ref 36), (5, .int (nI ii)), (6, .int ev)] [] (hp I A L O) (bC + 1) (bS + 1) Q := by
  refine a_aload_n (i := 2) q234_758 rfl rfl ?_
  refine a_aload_n (i := 0) q234_759 rfl rfl ?_
  refine a_iload q234_760 rfl ?_
  refine a_iconst (v := 1) q234_762 (by decide) ?_
  refine a_iadd q234_763 ?_
  refine a_scr (k := ii + 1) q234_764 (nI_add ii 1) (by omega) hX ?_
  refine a_cv1 q234_765 rfl rfl ⟨rfl, rfl⟩ rfl ?_
  refine c_X10_kindOf (hn := hn) (hn40 := hn40) (h1 := fun y0 => ?_) (h0 := fun j y1 y2 => ?_)
  · skip
    obtain ⟨ze, zk⟩ := h1 y0
    subst ze
    refine ck_r ?_
    refine a_istore (i := 7) (lv' := [(0, _), (1, _), (2, _), (3, _), (4, _), (5, _), (6, _), (7, _)]) q234_768 rfl rfl ?_
    refine a_aload_n (i := 2) q234_770 rfl rfl ?_
    refine a_cv0 q234_771 rfl rfl ⟨rfl, rfl⟩ rfl ?_
    refine c_X10_thrown ?_
    refine ck_r ?_
    refine AW.ti (show _ = (1 : Int32) from rfl) ?_
    refine a_iload q234_774 rfl ?_
    refine a_icmp_eq (tgt := 781) q234_776 (by decide) (fun zc776 => ?_) (fun zc776 => absurd (rfl) zc776)
    refine a_iload q234_781 rfl ?_
    refine a_if_ne (tgt := 798) q234_783 (by decide) (fun zc783 => ?_) (fun zc783 => absurd zc783 (by decide))
    refine a_goto (tgt := 2206) q234_798 (by decide) ?_
    refine AW.pop_less (x := (7, _)) (lv' := [(0, _), (1, _), (2, _), (3, _), (4, _), (5, _), (6, _)]) ?_
    refine AW.pop_less (x := (6, _)) (lv' := [(0, _), (1, _), (2, _), (3, _), (4, _), (5, _)]) ?_
    exact AW.wide (bc' := bC) (bs' := bS) (show bC ≤ bC + 1 from Nat.le_succ bC) (show bS ≤ bS + 1 from Nat.le_succ bS) zk
  · skip
    obtain ⟨ze, zv, zk⟩ := h0 j y1 y2
    subst ze
    refine ck_r ?_
    refine a_istore (i := 7) (lv' := [(0, _), (1, _), (2, _), (3, _), (4, _), (5, _), (6, _), (7, _)]) q234_768 rfl rfl ?_
    refine a_aload_n (i := 2) q234_770 rfl rfl ?_
    refine a_cv0 q234_771 rfl rfl ⟨rfl, rfl⟩ rfl ?_
    refine c_X10_thrown ?_
    refine ck_r ?_
    refine AW.ti (show _ = (0 : Int32) from rfl) ?_
    refine a_iload q234_774 rfl ?_
    refine a_icmp_eq (tgt := 781) q234_776 (by decide) (fun zc776 => ?_) (fun zc776 => absurd (rfl) zc776)
    refine a_iload q234_781 rfl ?_
    refine a_if_ne (tgt := 798) q234_783 (by decide) (fun zc783 => absurd zc783 (by decide)) (fun zc783 => ?_)
    refine a_aload_n (i := 3) q234_786 rfl rfl ?_
    refine a_iconst (v := 0) q234_787 (by decide) ?_
    refine a_lald' (j := 0) q234_788 rfl rfl (by decide) (by decide) ?_
    refine AW.tl zv ?_
    refine a_iload q234_789 rfl ?_
    refine a_i2l q234_791 ?_
    refine a_lcmp q234_792 ?_
    refine a_if_eq (tgt := 798) q234_793 (by decide) (fun zc793 => ?_) (fun zc793 => absurd ((lg_cmp_eq _ _).mpr rfl) zc793)
    refine a_goto (tgt := 2206) q234_798 (by decide) ?_
    refine AW.pop_less (x := (7, _)) (lv' := [(0, _), (1, _), (2, _), (3, _), (4, _), (5, _), (6, _)]) ?_
    refine AW.pop_less (x := (6, _)) (lv' := [(0, _), (1, _), (2, _), (3, _), (4, _), (5, _)]) ?_
    exact AW.wide (bc' := bC) (bs' := bS) (show bC ≤ bC + 1 from Nat.le_succ bC) (show bS ≤ bS + 1 from Nat.le_succ bS) zk

theorem opB_force {X : XS} {I : Nat → Int32} {A : Nat → Nat → Int32} {L : Nat → Nat → Int64} {O : Nat → UInt64} {Q : AO → AH → Prop} {ii bC bS : Nat} {ev : Int32} (hX : X.1 ≤ 3584) (hi : ii + 7 ≤ X.1) {n : Nat} (hn : I 20 = nI n) (hn40 : n ≤ 40) (h1 : ¬ isCol (X.2 (ii + 1)) → ev = 1 ∧ AW X 234 2206 [(0, .ref 1003), (1, .ref 0), (2, .ref 21), (3, .ref 35), (4, .ref 36), (5, .int (nI ii))] [] (hp (va_up I 26 1) A L O) bC bS Q) (h2 : ∀ j, j < 6 → (X.2 (ii + 1)) = nI j → ¬ ((X.2 (ii + 2)) = 2 ∨ (X.2 (ii + 2)) = 3 ∨ (X.2 (ii + 2)) = 4) → ev = 2 ∧ AW X 234 2206 [(0, .ref 1003), (1, .ref 0), (2, .ref 21), (3, .ref 35), (4, .ref 36), (5, .int (nI ii))] [] (hp (va_up I 26 2) A L O) bC bS Q) (h3 : ∀ j, j < 6 → (X.2 (ii + 1)) = nI j → ((X.2 (ii + 2)) = 2 ∨ (X.2 (ii + 2)) = 3 ∨ (X.2 (ii + 2)) = 4) → ev = 0 ∧ L 35 0 = ((mkd (va_up A 23 (upd (A 23) j (X.2 (ii + 2)))) n j)).toInt64 ∧ AW X 234 2206 [(0, .ref 1003), (1, .ref 0), (2, .ref 21), (3, .ref 35), (4, .ref 36), (5, .int (nI ii))] [] (hp (va_up (va_up I 26 0) 29 0) (va_up A 23 (upd (A 23) j (X.2 (ii + 2)))) L O) bC bS Q) : AW X 234 820 [(0, .ref 1003), (1, .ref 0), (2, .ref 21), (3, .ref 35), (4, .ref 36), (5, .int (nI ii)), (6, .int ev)] [] (hp I A L O) (bC + 1) (bS + 1) Q := by
  refine a_aload_n (i := 2) q234_820 rfl rfl ?_
  refine a_aload_n (i := 0) q234_821 rfl rfl ?_
  refine a_iload q234_822 rfl ?_
  refine a_iconst (v := 1) q234_824 (by decide) ?_
  refine a_iadd q234_825 ?_
  refine a_scr (k := ii + 1) q234_826 (nI_add ii 1) (by omega) hX ?_
  refine a_aload_n (i := 0) q234_827 rfl rfl ?_
  refine a_iload q234_828 rfl ?_
  refine a_iconst (v := 2) q234_830 (by decide) ?_
  refine a_iadd q234_831 ?_
  refine a_scr (k := ii + 2) q234_832 (nI_add ii 2) (by omega) hX ?_
  refine a_cv2 q234_833 rfl rfl ⟨rfl, rfl⟩ rfl ?_
  refine c_X10_force (hn := hn) (hn40 := hn40) (h1 := fun y0 => ?_) (h2 := fun j y1 y2 y3 => ?_) (h3 := fun j y1 y2 y3 => ?_)
  · skip
    obtain ⟨ze, zk⟩ := h1 y0
    subst ze
    refine ck_r ?_
    refine a_istore (i := 7) (lv' := [(0, _), (1, _), (2, _), (3, _), (4, _), (5, _), (6, _), (7, _)]) q234_836 rfl rfl ?_
    refine a_aload_n (i := 2) q234_838 rfl rfl ?_
    refine a_cv0 q234_839 rfl rfl ⟨rfl, rfl⟩ rfl ?_
    refine c_X10_thrown ?_
    refine ck_r ?_
    refine AW.ti (show _ = (1 : Int32) from rfl) ?_
    refine a_iload q234_842 rfl ?_
    refine a_icmp_eq (tgt := 849) q234_844 (by decide) (fun zc844 => ?_) (fun zc844 => absurd (rfl) zc844)
    refine a_iload q234_849 rfl ?_
    refine a_if_ne (tgt := 866) q234_851 (by decide) (fun zc851 => ?_) (fun zc851 => absurd zc851 (by decide))
    refine a_goto (tgt := 2206) q234_866 (by decide) ?_
    refine AW.pop_less (x := (7, _)) (lv' := [(0, _), (1, _), (2, _), (3, _), (4, _), (5, _), (6, _)]) ?_
    refine AW.pop_less (x := (6, _)) (lv' := [(0, _), (1, _), (2, _), (3, _), (4, _), (5, _)]) ?_
    exact AW.wide (bc' := bC) (bs' := bS) (show bC ≤ bC + 1 from Nat.le_succ bC) (show bS ≤ bS + 1 from Nat.le_succ bS) zk
  · skip
    obtain ⟨ze, zk⟩ := h2 j y1 y2 y3
    subst ze
    refine ck_r ?_
    refine a_istore (i := 7) (lv' := [(0, _), (1, _), (2, _), (3, _), (4, _), (5, _), (6, _), (7, _)]) q234_836 rfl rfl ?_
    refine a_aload_n (i := 2) q234_838 rfl rfl ?_
    refine a_cv0 q234_839 rfl rfl ⟨rfl, rfl⟩ rfl ?_
    refine c_X10_thrown ?_
    refine ck_r ?_
    refine AW.ti (show _ = (2 : Int32) from rfl) ?_
    refine a_iload q234_842 rfl ?_
    refine a_icmp_eq (tgt := 849) q234_844 (by decide) (fun zc844 => ?_) (fun zc844 => absurd (rfl) zc844)
    refine a_iload q234_849 rfl ?_
    refine a_if_ne (tgt := 866) q234_851 (by decide) (fun zc851 => ?_) (fun zc851 => absurd zc851 (by decide))
    refine a_goto (tgt := 2206) q234_866 (by decide) ?_
    refine AW.pop_less (x := (7, _)) (lv' := [(0, _), (1, _), (2, _), (3, _), (4, _), (5, _), (6, _)]) ?_
    refine AW.pop_less (x := (6, _)) (lv' := [(0, _), (1, _), (2, _), (3, _), (4, _), (5, _)]) ?_
    exact AW.wide (bc' := bC) (bs' := bS) (show bC ≤ bC + 1 from Nat.le_succ bC) (show bS ≤ bS + 1 from Nat.le_succ bS) zk
  · skip
    obtain ⟨ze, zv, zk⟩ := h3 j y1 y2 y3
    subst ze
    refine ck_r ?_
    refine a_istore (i := 7) (lv' := [(0, _), (1, _), (2, _), (3, _), (4, _), (5, _), (6, _), (7, _)]) q234_836 rfl rfl ?_
    refine a_aload_n (i := 2) q234_838 rfl rfl ?_
    refine a_cv0 q234_839 rfl rfl ⟨rfl, rfl⟩ rfl ?_
    refine c_X10_thrown ?_
    refine ck_r ?_
    refine AW.ti (show _ = (0 : Int32) from rfl) ?_
    refine a_iload q234_842 rfl ?_
    refine a_icmp_eq (tgt := 849) q234_844 (by decide) (fun zc844 => ?_) (fun zc844 => absurd (rfl) zc844)
    refine a_iload q234_849 rfl ?_
    refine a_if_ne (tgt := 866) q234_851 (by decide) (fun zc851 => absurd zc851 (by decide)) (fun zc851 => ?_)
    refine a_aload_n (i := 3) q234_854 rfl rfl ?_
    refine a_iconst (v := 0) q234_855 (by decide) ?_
    refine a_lald' (j := 0) q234_856 rfl rfl (by decide) (by decide) ?_
    refine AW.tl zv ?_
    refine a_iload q234_857 rfl ?_
    refine a_i2l q234_859 ?_
    refine a_lcmp q234_860 ?_
    refine a_if_eq (tgt := 866) q234_861 (by decide) (fun zc861 => ?_) (fun zc861 => absurd ((lg_cmp_eq _ _).mpr rfl) zc861)
    refine a_goto (tgt := 2206) q234_866 (by decide) ?_
    refine AW.pop_less (x := (7, _)) (lv' := [(0, _), (1, _), (2, _), (3, _), (4, _), (5, _), (6, _)]) ?_
    refine AW.pop_less (x := (6, _)) (lv' := [(0, _), (1, _), (2, _), (3, _), (4, _), (5, _)]) ?_
    exact AW.wide (bc' := bC) (bs' := bS) (show bC ≤ bC + 1 from Nat.le_succ bC) (show bS ≤ bS + 1 from Nat.le_succ bS) zk

theorem opB_unforce {X : XS} {I : Nat → Int32} {A : Nat → Nat → Int32} {L : Nat → Nat → Int64} {O : Nat → UInt64} {Q : AO → AH → Prop} {ii bC bS : Nat} {ev : Int32} (hX : X.1 ≤ 3584) (hi : ii + 7 ≤ X.1) {n : Nat} (hn : I 20 = nI n) (hn40 : n ≤ 40) (h1 : ¬ isCol (X.2 (ii + 1)) → ev = 1 ∧ AW X 234 2206 [(0, .ref 1003), (1, .ref 0), (2, .ref 21), (3, .ref 35), (4, .ref 36), (5, .int (nI ii))] [] (hp (va_up I 26 1) A L O) bC bS Q) (h2 : ∀ j, j < 6 → (X.2 (ii + 1)) = nI j → A 23 j = 0 → ev = 2 ∧ AW X 234 2206 [(0, .ref 1003), (1, .ref 0), (2, .ref 21), (3, .ref 35), (4, .ref 36), (5, .int (nI ii))] [] (hp (va_up I 26 2) A L O) bC bS Q) (h3 : ∀ j, j < 6 → (X.2 (ii + 1)) = nI j → ¬ A 23 j = 0 → ev = 0 ∧ L 35 0 = ((mkd (va_up A 23 (upd (A 23) j 0)) n j)).toInt64 ∧ AW X 234 2206 [(0, .ref 1003), (1, .ref 0), (2, .ref 21), (3, .ref 35), (4, .ref 36), (5, .int (nI ii))] [] (hp (va_up (va_up I 26 0) 29 0) (va_up A 23 (upd (A 23) j 0)) L O) bC bS Q) : AW X 234 882 [(0, .ref 1003), (1, .ref 0), (2, .ref 21), (3, .ref 35), (4, .ref 36), (5, .int (nI ii)), (6, .int ev)] [] (hp I A L O) (bC + 1) (bS + 1) Q := by
  refine a_aload_n (i := 2) q234_882 rfl rfl ?_
  refine a_aload_n (i := 0) q234_883 rfl rfl ?_
  refine a_iload q234_884 rfl ?_
  refine a_iconst (v := 1) q234_886 (by decide) ?_
  refine a_iadd q234_887 ?_
  refine a_scr (k := ii + 1) q234_888 (nI_add ii 1) (by omega) hX ?_
  refine a_cv1 q234_889 rfl rfl ⟨rfl, rfl⟩ rfl ?_
  refine c_X10_unforce (hn := hn) (hn40 := hn40) (h1 := fun y0 => ?_) (h2 := fun j y1 y2 y3 => ?_) (h3 := fun j y1 y2 y3 => ?_)
  · skip
    obtain ⟨ze, zk⟩ := h1 y0
    subst ze
    refine ck_r ?_
    refine a_istore (i := 7) (lv' := [(0, _), (1, _), (2, _), (3, _), (4, _), (5, _), (6, _), (7, _)]) q234_892 rfl rfl ?_
    refine a_aload_n (i := 2) q234_894 rfl rfl ?_
    refine a_cv0 q234_895 rfl rfl ⟨rfl, rfl⟩ rfl ?_
    refine c_X10_thrown ?_
    refine ck_r ?_
    refine AW.ti (show _ = (1 : Int32) from rfl) ?_
    refine a_iload q234_898 rfl ?_
    refine a_icmp_eq (tgt := 905) q234_900 (by decide) (fun zc900 => ?_) (fun zc900 => absurd (rfl) zc900)
    refine a_iload q234_905 rfl ?_
    refine a_if_ne (tgt := 922) q234_907 (by decide) (fun zc907 => ?_) (fun zc907 => absurd zc907 (by decide))
    refine a_goto (tgt := 2206) q234_922 (by decide) ?_
    refine AW.pop_less (x := (7, _)) (lv' := [(0, _), (1, _), (2, _), (3, _), (4, _), (5, _), (6, _)]) ?_
    refine AW.pop_less (x := (6, _)) (lv' := [(0, _), (1, _), (2, _), (3, _), (4, _), (5, _)]) ?_
    exact AW.wide (bc' := bC) (bs' := bS) (show bC ≤ bC + 1 from Nat.le_succ bC) (show bS ≤ bS + 1 from Nat.le_succ bS) zk
  · skip
    obtain ⟨ze, zk⟩ := h2 j y1 y2 y3
    subst ze
    refine ck_r ?_
    refine a_istore (i := 7) (lv' := [(0, _), (1, _), (2, _), (3, _), (4, _), (5, _), (6, _), (7, _)]) q234_892 rfl rfl ?_
    refine a_aload_n (i := 2) q234_894 rfl rfl ?_
    refine a_cv0 q234_895 rfl rfl ⟨rfl, rfl⟩ rfl ?_
    refine c_X10_thrown ?_
    refine ck_r ?_
    refine AW.ti (show _ = (2 : Int32) from rfl) ?_
    refine a_iload q234_898 rfl ?_
    refine a_icmp_eq (tgt := 905) q234_900 (by decide) (fun zc900 => ?_) (fun zc900 => absurd (rfl) zc900)
    refine a_iload q234_905 rfl ?_
    refine a_if_ne (tgt := 922) q234_907 (by decide) (fun zc907 => ?_) (fun zc907 => absurd zc907 (by decide))
    refine a_goto (tgt := 2206) q234_922 (by decide) ?_
    refine AW.pop_less (x := (7, _)) (lv' := [(0, _), (1, _), (2, _), (3, _), (4, _), (5, _), (6, _)]) ?_
    refine AW.pop_less (x := (6, _)) (lv' := [(0, _), (1, _), (2, _), (3, _), (4, _), (5, _)]) ?_
    exact AW.wide (bc' := bC) (bs' := bS) (show bC ≤ bC + 1 from Nat.le_succ bC) (show bS ≤ bS + 1 from Nat.le_succ bS) zk
  · skip
    obtain ⟨ze, zv, zk⟩ := h3 j y1 y2 y3
    subst ze
    refine ck_r ?_
    refine a_istore (i := 7) (lv' := [(0, _), (1, _), (2, _), (3, _), (4, _), (5, _), (6, _), (7, _)]) q234_892 rfl rfl ?_
    refine a_aload_n (i := 2) q234_894 rfl rfl ?_
    refine a_cv0 q234_895 rfl rfl ⟨rfl, rfl⟩ rfl ?_
    refine c_X10_thrown ?_
    refine ck_r ?_
    refine AW.ti (show _ = (0 : Int32) from rfl) ?_
    refine a_iload q234_898 rfl ?_
    refine a_icmp_eq (tgt := 905) q234_900 (by decide) (fun zc900 => ?_) (fun zc900 => absurd (rfl) zc900)
    refine a_iload q234_905 rfl ?_
    refine a_if_ne (tgt := 922) q234_907 (by decide) (fun zc907 => absurd zc907 (by decide)) (fun zc907 => ?_)
    refine a_aload_n (i := 3) q234_910 rfl rfl ?_
    refine a_iconst (v := 0) q234_911 (by decide) ?_
    refine a_lald' (j := 0) q234_912 rfl rfl (by decide) (by decide) ?_
    refine AW.tl zv ?_
    refine a_iload q234_913 rfl ?_
    refine a_i2l q234_915 ?_
    refine a_lcmp q234_916 ?_
    refine a_if_eq (tgt := 922) q234_917 (by decide) (fun zc917 => ?_) (fun zc917 => absurd ((lg_cmp_eq _ _).mpr rfl) zc917)
    refine a_goto (tgt := 2206) q234_922 (by decide) ?_
    refine AW.pop_less (x := (7, _)) (lv' := [(0, _), (1, _), (2, _), (3, _), (4, _), (5, _), (6, _)]) ?_
    refine AW.pop_less (x := (6, _)) (lv' := [(0, _), (1, _), (2, _), (3, _), (4, _), (5, _)]) ?_
    exact AW.wide (bc' := bC) (bs' := bS) (show bC ≤ bC + 1 from Nat.le_succ bC) (show bS ≤ bS + 1 from Nat.le_succ bS) zk

theorem opB_wish {X : XS} {I : Nat → Int32} {A : Nat → Nat → Int32} {L : Nat → Nat → Int64} {O : Nat → UInt64} {Q : AO → AH → Prop} {ii bC bS : Nat} {ev : Int32} (hX : X.1 ≤ 3584) (hi : ii + 7 ≤ X.1) (hz : (b2i (¬ (X.2 (ii + 2)) = 0)) = 0 ∨ (b2i (¬ (X.2 (ii + 2)) = 0)) = 1) (h1 : ¬ isCol (X.2 (ii + 1)) → ev = 1 ∧ AW X 234 2206 [(0, .ref 1003), (1, .ref 0), (2, .ref 21), (3, .ref 35), (4, .ref 36), (5, .int (nI ii))] [] (hp (va_up I 26 1) A L O) bC bS Q) (h0 : ∀ j, j < 6 → (X.2 (ii + 1)) = nI j → ev = 0 ∧ L 35 0 = ((cntB (upd (A 27) j (b2i (¬ (X.2 (ii + 2)) = 0))) 6)).toInt64 ∧ AW X 234 2206 [(0, .ref 1003), (1, .ref 0), (2, .ref 21), (3, .ref 35), (4, .ref 36), (5, .int (nI ii))] [] (hp (va_up (va_up I 26 0) 29 0) (va_up A 27 (upd (A 27) j (b2i (¬ (X.2 (ii + 2)) = 0)))) L O) bC bS Q) : AW X 234 952 [(0, .ref 1003), (1, .ref 0), (2, .ref 21), (3, .ref 35), (4, .ref 36), (5, .int (nI ii)), (6, .int ev)] [] (hp I A L O) (bC + 1) (bS + 1) Q := by
  refine a_aload_n (i := 2) q234_952 rfl rfl ?_
  refine a_aload_n (i := 0) q234_953 rfl rfl ?_
  refine a_iload q234_954 rfl ?_
  refine a_iconst (v := 1) q234_956 (by decide) ?_
  refine a_iadd q234_957 ?_
  refine a_scr (k := ii + 1) q234_958 (nI_add ii 1) (by omega) hX ?_
  refine a_aload_n (i := 0) q234_959 rfl rfl ?_
  refine a_iload q234_960 rfl ?_
  refine a_iconst (v := 2) q234_962 (by decide) ?_
  refine a_iadd q234_963 ?_
  refine a_scr (k := ii + 2) q234_964 (nI_add ii 2) (by omega) hX ?_
  refine AW.cutS 973 (b2i (¬ (X.2 (ii + 2)) = 0)) (fun zk973 => ?_) ?_
  · skip
    refine a_if_eq (tgt := 972) q234_965 (by decide) (fun zc965 => ?_) (fun zc965 => ?_)
    · skip
      refine a_iconst (v := 0) q234_972 (by decide) ?_
      exact cutv zk973 (b2i_f (fun zz => zz zc965))
    · skip
      refine a_iconst (v := 1) q234_968 (by decide) ?_
      refine a_goto (tgt := 973) q234_969 (by decide) ?_
      exact cutv zk973 (b2i_t zc965)
  refine a_cv2 q234_973 rfl rfl ⟨rfl, rfl⟩ rfl ?_
  refine c_X10_wish (hz := hz) (h1 := fun y0 => ?_) (h0 := fun j y1 y2 => ?_)
  · skip
    obtain ⟨ze, zk⟩ := h1 y0
    subst ze
    refine ck_r ?_
    refine a_istore (i := 7) (lv' := [(0, _), (1, _), (2, _), (3, _), (4, _), (5, _), (6, _), (7, _)]) q234_976 rfl rfl ?_
    refine a_aload_n (i := 2) q234_978 rfl rfl ?_
    refine a_cv0 q234_979 rfl rfl ⟨rfl, rfl⟩ rfl ?_
    refine c_X10_thrown ?_
    refine ck_r ?_
    refine AW.ti (show _ = (1 : Int32) from rfl) ?_
    refine a_iload q234_982 rfl ?_
    refine a_icmp_eq (tgt := 989) q234_984 (by decide) (fun zc984 => ?_) (fun zc984 => absurd (rfl) zc984)
    refine a_iload q234_989 rfl ?_
    refine a_if_ne (tgt := 1006) q234_991 (by decide) (fun zc991 => ?_) (fun zc991 => absurd zc991 (by decide))
    refine a_goto (tgt := 2206) q234_1006 (by decide) ?_
    refine AW.pop_less (x := (7, _)) (lv' := [(0, _), (1, _), (2, _), (3, _), (4, _), (5, _), (6, _)]) ?_
    refine AW.pop_less (x := (6, _)) (lv' := [(0, _), (1, _), (2, _), (3, _), (4, _), (5, _)]) ?_
    exact AW.wide (bc' := bC) (bs' := bS) (show bC ≤ bC + 1 from Nat.le_succ bC) (show bS ≤ bS + 1 from Nat.le_succ bS) zk
  · skip
    obtain ⟨ze, zv, zk⟩ := h0 j y1 y2
    subst ze
    refine ck_r ?_
    refine a_istore (i := 7) (lv' := [(0, _), (1, _), (2, _), (3, _), (4, _), (5, _), (6, _), (7, _)]) q234_976 rfl rfl ?_
    refine a_aload_n (i := 2) q234_978 rfl rfl ?_
    refine a_cv0 q234_979 rfl rfl ⟨rfl, rfl⟩ rfl ?_
    refine c_X10_thrown ?_
    refine ck_r ?_
    refine AW.ti (show _ = (0 : Int32) from rfl) ?_
    refine a_iload q234_982 rfl ?_
    refine a_icmp_eq (tgt := 989) q234_984 (by decide) (fun zc984 => ?_) (fun zc984 => absurd (rfl) zc984)
    refine a_iload q234_989 rfl ?_
    refine a_if_ne (tgt := 1006) q234_991 (by decide) (fun zc991 => absurd zc991 (by decide)) (fun zc991 => ?_)
    refine a_aload_n (i := 3) q234_994 rfl rfl ?_
    refine a_iconst (v := 0) q234_995 (by decide) ?_
    refine a_lald' (j := 0) q234_996 rfl rfl (by decide) (by decide) ?_
    refine AW.tl zv ?_
    refine a_iload q234_997 rfl ?_
    refine a_i2l q234_999 ?_
    refine a_lcmp q234_1000 ?_
    refine a_if_eq (tgt := 1006) q234_1001 (by decide) (fun zc1001 => ?_) (fun zc1001 => absurd ((lg_cmp_eq _ _).mpr rfl) zc1001)
    refine a_goto (tgt := 2206) q234_1006 (by decide) ?_
    refine AW.pop_less (x := (7, _)) (lv' := [(0, _), (1, _), (2, _), (3, _), (4, _), (5, _), (6, _)]) ?_
    refine AW.pop_less (x := (6, _)) (lv' := [(0, _), (1, _), (2, _), (3, _), (4, _), (5, _)]) ?_
    exact AW.wide (bc' := bC) (bs' := bS) (show bC ≤ bC + 1 from Nat.le_succ bC) (show bS ≤ bS + 1 from Nat.le_succ bS) zk

theorem opB_wishMark {X : XS} {I : Nat → Int32} {A : Nat → Nat → Int32} {L : Nat → Nat → Int64} {O : Nat → UInt64} {Q : AO → AH → Prop} {ii bC bS : Nat} {ev : Int32} (hX : X.1 ≤ 3584) (hi : ii + 7 ≤ X.1) (hm : narrow .char (.int (((X.2 (ii + 1)).toUInt32 % 65536).toInt32)) = .int (((X.2 (ii + 1)).toUInt32 % 65536).toInt32)) (hf : fits .char (.int (((X.2 (ii + 1)).toUInt32 % 65536).toInt32)) = true) (hn4 : narrow .char (.int (I 27)) = .int (I 27)) (h1 : ¬ (isMk (((X.2 (ii + 1)).toUInt32 % 65536).toInt32) ∨ (((X.2 (ii + 1)).toUInt32 % 65536).toInt32) = 45) → ev = 1 ∧ AW X 234 2206 [(0, .ref 1003), (1, .ref 0), (2, .ref 21), (3, .ref 35), (4, .ref 36), (5, .int (nI ii))] [] (hp (va_up I 26 1) A L O) bC bS Q) (h0 : (isMk (((X.2 (ii + 1)).toUInt32 % 65536).toInt32) ∨ (((X.2 (ii + 1)).toUInt32 % 65536).toInt32) = 45) → ev = 0 ∧ L 35 0 = ((I 27)).toInt64 ∧ AW X 234 2206 [(0, .ref 1003), (1, .ref 0), (2, .ref 21), (3, .ref 35), (4, .ref 36), (5, .int (nI ii))] [] (hp (va_up (va_up (va_up I 26 0) 29 0) 27 (((X.2 (ii + 1)).toUInt32 % 65536).toInt32)) A L O) bC bS Q) : AW X 234 1023 [(0, .ref 1003), (1, .ref 0), (2, .ref 21), (3, .ref 35), (4, .ref 36), (5, .int (nI ii)), (6, .int ev)] [] (hp I A L O) (bC + 1) (bS + 1) Q := by
  refine a_aload_n (i := 2) q234_1023 rfl rfl ?_
  refine a_aload_n (i := 0) q234_1024 rfl rfl ?_
  refine a_iload q234_1025 rfl ?_
  refine a_iconst (v := 1) q234_1027 (by decide) ?_
  refine a_iadd q234_1028 ?_
  refine a_scr (k := ii + 1) q234_1029 (nI_add ii 1) (by omega) hX ?_
  refine a_i2c q234_1030 ?_
  refine a_cv1 q234_1031 rfl rfl ⟨rfl, rfl⟩ rfl ?_
  refine c_X10_wishMark (hm := hm) (hf := hf) (hn4 := hn4) (h1 := fun y0 => ?_) (h0 := fun y0 => ?_)
  · skip
    obtain ⟨ze, zk⟩ := h1 y0
    subst ze
    refine ck_r ?_
    refine a_istore (i := 7) (lv' := [(0, _), (1, _), (2, _), (3, _), (4, _), (5, _), (6, _), (7, _)]) q234_1034 rfl rfl ?_
    refine a_aload_n (i := 2) q234_1036 rfl rfl ?_
    refine a_cv0 q234_1037 rfl rfl ⟨rfl, rfl⟩ rfl ?_
    refine c_X10_thrown ?_
    refine ck_r ?_
    refine AW.ti (show _ = (1 : Int32) from rfl) ?_
    refine a_iload q234_1040 rfl ?_
    refine a_icmp_eq (tgt := 1047) q234_1042 (by decide) (fun zc1042 => ?_) (fun zc1042 => absurd (rfl) zc1042)
    refine a_iload q234_1047 rfl ?_
    refine a_if_ne (tgt := 1064) q234_1049 (by decide) (fun zc1049 => ?_) (fun zc1049 => absurd zc1049 (by decide))
    refine a_goto (tgt := 2206) q234_1064 (by decide) ?_
    refine AW.pop_less (x := (7, _)) (lv' := [(0, _), (1, _), (2, _), (3, _), (4, _), (5, _), (6, _)]) ?_
    refine AW.pop_less (x := (6, _)) (lv' := [(0, _), (1, _), (2, _), (3, _), (4, _), (5, _)]) ?_
    exact AW.wide (bc' := bC) (bs' := bS) (show bC ≤ bC + 1 from Nat.le_succ bC) (show bS ≤ bS + 1 from Nat.le_succ bS) zk
  · skip
    obtain ⟨ze, zv, zk⟩ := h0 y0
    subst ze
    refine ck_r ?_
    refine a_istore (i := 7) (lv' := [(0, _), (1, _), (2, _), (3, _), (4, _), (5, _), (6, _), (7, _)]) q234_1034 rfl rfl ?_
    refine a_aload_n (i := 2) q234_1036 rfl rfl ?_
    refine a_cv0 q234_1037 rfl rfl ⟨rfl, rfl⟩ rfl ?_
    refine c_X10_thrown ?_
    refine ck_r ?_
    refine AW.ti (show _ = (0 : Int32) from rfl) ?_
    refine a_iload q234_1040 rfl ?_
    refine a_icmp_eq (tgt := 1047) q234_1042 (by decide) (fun zc1042 => ?_) (fun zc1042 => absurd (rfl) zc1042)
    refine a_iload q234_1047 rfl ?_
    refine a_if_ne (tgt := 1064) q234_1049 (by decide) (fun zc1049 => absurd zc1049 (by decide)) (fun zc1049 => ?_)
    refine a_aload_n (i := 3) q234_1052 rfl rfl ?_
    refine a_iconst (v := 0) q234_1053 (by decide) ?_
    refine a_lald' (j := 0) q234_1054 rfl rfl (by decide) (by decide) ?_
    refine AW.tl zv ?_
    refine a_iload q234_1055 rfl ?_
    refine a_i2l q234_1057 ?_
    refine a_lcmp q234_1058 ?_
    refine a_if_eq (tgt := 1064) q234_1059 (by decide) (fun zc1059 => ?_) (fun zc1059 => absurd ((lg_cmp_eq _ _).mpr rfl) zc1059)
    refine a_goto (tgt := 2206) q234_1064 (by decide) ?_
    refine AW.pop_less (x := (7, _)) (lv' := [(0, _), (1, _), (2, _), (3, _), (4, _), (5, _), (6, _)]) ?_
    refine AW.pop_less (x := (6, _)) (lv' := [(0, _), (1, _), (2, _), (3, _), (4, _), (5, _)]) ?_
    exact AW.wide (bc' := bC) (bs' := bS) (show bC ≤ bC + 1 from Nat.le_succ bC) (show bS ≤ bS + 1 from Nat.le_succ bS) zk

theorem opB_forbid {X : XS} {I : Nat → Int32} {A : Nat → Nat → Int32} {L : Nat → Nat → Int64} {O : Nat → UInt64} {Q : AO → AH → Prop} {ii bC bS : Nat} {ev : Int32} (hX : X.1 ≤ 3584) (hi : ii + 7 ≤ X.1)  (h1 : ¬ (isCol (X.2 (ii + 1)) ∧ isChan (X.2 (ii + 2))) → ev = 1 ∧ AW X 234 2206 [(0, .ref 1003), (1, .ref 0), (2, .ref 21), (3, .ref 35), (4, .ref 36), (5, .int (nI ii))] [] (hp (va_up I 26 1) A L O) bC bS Q) (h2 : ∀ i j, i < 6 → j < 4 → (X.2 (ii + 1)) = nI i → (X.2 (ii + 2)) = nI j → A 28 (4 * i + j) = 1 → ev = 2 ∧ AW X 234 2206 [(0, .ref 1003), (1, .ref 0), (2, .ref 21), (3, .ref 35), (4, .ref 36), (5, .int (nI ii))] [] (hp (va_up I 26 2) A L O) bC bS Q) (h3 : ∀ i j, i < 6 → j < 4 → (X.2 (ii + 1)) = nI i → (X.2 (ii + 2)) = nI j → ¬ A 28 (4 * i + j) = 1 → ev = 0 ∧ L 35 0 = ((cntB (upd (A 28) (4 * i + j) 1) 24)).toInt64 ∧ AW X 234 2206 [(0, .ref 1003), (1, .ref 0), (2, .ref 21), (3, .ref 35), (4, .ref 36), (5, .int (nI ii))] [] (hp (va_up (va_up I 26 0) 29 0) (va_up A 28 (upd (A 28) (4 * i + j) 1)) L O) bC bS Q) : AW X 234 1086 [(0, .ref 1003), (1, .ref 0), (2, .ref 21), (3, .ref 35), (4, .ref 36), (5, .int (nI ii)), (6, .int ev)] [] (hp I A L O) (bC + 1) (bS + 1) Q := by
  refine a_aload_n (i := 2) q234_1086 rfl rfl ?_
  refine a_aload_n (i := 0) q234_1087 rfl rfl ?_
  refine a_iload q234_1088 rfl ?_
  refine a_iconst (v := 1) q234_1090 (by decide) ?_
  refine a_iadd q234_1091 ?_
  refine a_scr (k := ii + 1) q234_1092 (nI_add ii 1) (by omega) hX ?_
  refine a_aload_n (i := 0) q234_1093 rfl rfl ?_
  refine a_iload q234_1094 rfl ?_
  refine a_iconst (v := 2) q234_1096 (by decide) ?_
  refine a_iadd q234_1097 ?_
  refine a_scr (k := ii + 2) q234_1098 (nI_add ii 2) (by omega) hX ?_
  refine a_cv2 q234_1099 rfl rfl ⟨rfl, rfl⟩ rfl ?_
  refine c_X10_forbid  (h1 := fun y0 => ?_) (h2 := fun i j y2 y3 y4 y5 y6 => ?_) (h3 := fun i j y2 y3 y4 y5 y6 => ?_)
  · skip
    obtain ⟨ze, zk⟩ := h1 y0
    subst ze
    refine ck_r ?_
    refine a_istore (i := 7) (lv' := [(0, _), (1, _), (2, _), (3, _), (4, _), (5, _), (6, _), (7, _)]) q234_1102 rfl rfl ?_
    refine a_aload_n (i := 2) q234_1104 rfl rfl ?_
    refine a_cv0 q234_1105 rfl rfl ⟨rfl, rfl⟩ rfl ?_
    refine c_X10_thrown ?_
    refine ck_r ?_
    refine AW.ti (show _ = (1 : Int32) from rfl) ?_
    refine a_iload q234_1108 rfl ?_
    refine a_icmp_eq (tgt := 1115) q234_1110 (by decide) (fun zc1110 => ?_) (fun zc1110 => absurd (rfl) zc1110)
    refine a_iload q234_1115 rfl ?_
    refine a_if_ne (tgt := 1132) q234_1117 (by decide) (fun zc1117 => ?_) (fun zc1117 => absurd zc1117 (by decide))
    refine a_goto (tgt := 2206) q234_1132 (by decide) ?_
    refine AW.pop_less (x := (7, _)) (lv' := [(0, _), (1, _), (2, _), (3, _), (4, _), (5, _), (6, _)]) ?_
    refine AW.pop_less (x := (6, _)) (lv' := [(0, _), (1, _), (2, _), (3, _), (4, _), (5, _)]) ?_
    exact AW.wide (bc' := bC) (bs' := bS) (show bC ≤ bC + 1 from Nat.le_succ bC) (show bS ≤ bS + 1 from Nat.le_succ bS) zk
  · skip
    obtain ⟨ze, zk⟩ := h2 i j y2 y3 y4 y5 y6
    subst ze
    refine ck_r ?_
    refine a_istore (i := 7) (lv' := [(0, _), (1, _), (2, _), (3, _), (4, _), (5, _), (6, _), (7, _)]) q234_1102 rfl rfl ?_
    refine a_aload_n (i := 2) q234_1104 rfl rfl ?_
    refine a_cv0 q234_1105 rfl rfl ⟨rfl, rfl⟩ rfl ?_
    refine c_X10_thrown ?_
    refine ck_r ?_
    refine AW.ti (show _ = (2 : Int32) from rfl) ?_
    refine a_iload q234_1108 rfl ?_
    refine a_icmp_eq (tgt := 1115) q234_1110 (by decide) (fun zc1110 => ?_) (fun zc1110 => absurd (rfl) zc1110)
    refine a_iload q234_1115 rfl ?_
    refine a_if_ne (tgt := 1132) q234_1117 (by decide) (fun zc1117 => ?_) (fun zc1117 => absurd zc1117 (by decide))
    refine a_goto (tgt := 2206) q234_1132 (by decide) ?_
    refine AW.pop_less (x := (7, _)) (lv' := [(0, _), (1, _), (2, _), (3, _), (4, _), (5, _), (6, _)]) ?_
    refine AW.pop_less (x := (6, _)) (lv' := [(0, _), (1, _), (2, _), (3, _), (4, _), (5, _)]) ?_
    exact AW.wide (bc' := bC) (bs' := bS) (show bC ≤ bC + 1 from Nat.le_succ bC) (show bS ≤ bS + 1 from Nat.le_succ bS) zk
  · skip
    obtain ⟨ze, zv, zk⟩ := h3 i j y2 y3 y4 y5 y6
    subst ze
    refine ck_r ?_
    refine a_istore (i := 7) (lv' := [(0, _), (1, _), (2, _), (3, _), (4, _), (5, _), (6, _), (7, _)]) q234_1102 rfl rfl ?_
    refine a_aload_n (i := 2) q234_1104 rfl rfl ?_
    refine a_cv0 q234_1105 rfl rfl ⟨rfl, rfl⟩ rfl ?_
    refine c_X10_thrown ?_
    refine ck_r ?_
    refine AW.ti (show _ = (0 : Int32) from rfl) ?_
    refine a_iload q234_1108 rfl ?_
    refine a_icmp_eq (tgt := 1115) q234_1110 (by decide) (fun zc1110 => ?_) (fun zc1110 => absurd (rfl) zc1110)
    refine a_iload q234_1115 rfl ?_
    refine a_if_ne (tgt := 1132) q234_1117 (by decide) (fun zc1117 => absurd zc1117 (by decide)) (fun zc1117 => ?_)
    refine a_aload_n (i := 3) q234_1120 rfl rfl ?_
    refine a_iconst (v := 0) q234_1121 (by decide) ?_
    refine a_lald' (j := 0) q234_1122 rfl rfl (by decide) (by decide) ?_
    refine AW.tl zv ?_
    refine a_iload q234_1123 rfl ?_
    refine a_i2l q234_1125 ?_
    refine a_lcmp q234_1126 ?_
    refine a_if_eq (tgt := 1132) q234_1127 (by decide) (fun zc1127 => ?_) (fun zc1127 => absurd ((lg_cmp_eq _ _).mpr rfl) zc1127)
    refine a_goto (tgt := 2206) q234_1132 (by decide) ?_
    refine AW.pop_less (x := (7, _)) (lv' := [(0, _), (1, _), (2, _), (3, _), (4, _), (5, _), (6, _)]) ?_
    refine AW.pop_less (x := (6, _)) (lv' := [(0, _), (1, _), (2, _), (3, _), (4, _), (5, _)]) ?_
    exact AW.wide (bc' := bC) (bs' := bS) (show bC ≤ bC + 1 from Nat.le_succ bC) (show bS ≤ bS + 1 from Nat.le_succ bS) zk

theorem opB_allow {X : XS} {I : Nat → Int32} {A : Nat → Nat → Int32} {L : Nat → Nat → Int64} {O : Nat → UInt64} {Q : AO → AH → Prop} {ii bC bS : Nat} {ev : Int32} (hX : X.1 ≤ 3584) (hi : ii + 7 ≤ X.1)  (h1 : ¬ (isCol (X.2 (ii + 1)) ∧ isChan (X.2 (ii + 2))) → ev = 1 ∧ AW X 234 2206 [(0, .ref 1003), (1, .ref 0), (2, .ref 21), (3, .ref 35), (4, .ref 36), (5, .int (nI ii))] [] (hp (va_up I 26 1) A L O) bC bS Q) (h2 : ∀ i j, i < 6 → j < 4 → (X.2 (ii + 1)) = nI i → (X.2 (ii + 2)) = nI j → A 28 (4 * i + j) = 0 → ev = 2 ∧ AW X 234 2206 [(0, .ref 1003), (1, .ref 0), (2, .ref 21), (3, .ref 35), (4, .ref 36), (5, .int (nI ii))] [] (hp (va_up I 26 2) A L O) bC bS Q) (h3 : ∀ i j, i < 6 → j < 4 → (X.2 (ii + 1)) = nI i → (X.2 (ii + 2)) = nI j → ¬ A 28 (4 * i + j) = 0 → ev = 0 ∧ L 35 0 = ((cntB (upd (A 28) (4 * i + j) 0) 24)).toInt64 ∧ AW X 234 2206 [(0, .ref 1003), (1, .ref 0), (2, .ref 21), (3, .ref 35), (4, .ref 36), (5, .int (nI ii))] [] (hp (va_up (va_up I 26 0) 29 0) (va_up A 28 (upd (A 28) (4 * i + j) 0)) L O) bC bS Q) : AW X 234 1154 [(0, .ref 1003), (1, .ref 0), (2, .ref 21), (3, .ref 35), (4, .ref 36), (5, .int (nI ii)), (6, .int ev)] [] (hp I A L O) (bC + 1) (bS + 1) Q := by
  refine a_aload_n (i := 2) q234_1154 rfl rfl ?_
  refine a_aload_n (i := 0) q234_1155 rfl rfl ?_
  refine a_iload q234_1156 rfl ?_
  refine a_iconst (v := 1) q234_1158 (by decide) ?_
  refine a_iadd q234_1159 ?_
  refine a_scr (k := ii + 1) q234_1160 (nI_add ii 1) (by omega) hX ?_
  refine a_aload_n (i := 0) q234_1161 rfl rfl ?_
  refine a_iload q234_1162 rfl ?_
  refine a_iconst (v := 2) q234_1164 (by decide) ?_
  refine a_iadd q234_1165 ?_
  refine a_scr (k := ii + 2) q234_1166 (nI_add ii 2) (by omega) hX ?_
  refine a_cv2 q234_1167 rfl rfl ⟨rfl, rfl⟩ rfl ?_
  refine c_X10_allow  (h1 := fun y0 => ?_) (h2 := fun i j y2 y3 y4 y5 y6 => ?_) (h3 := fun i j y2 y3 y4 y5 y6 => ?_)
  · skip
    obtain ⟨ze, zk⟩ := h1 y0
    subst ze
    refine ck_r ?_
    refine a_istore (i := 7) (lv' := [(0, _), (1, _), (2, _), (3, _), (4, _), (5, _), (6, _), (7, _)]) q234_1170 rfl rfl ?_
    refine a_aload_n (i := 2) q234_1172 rfl rfl ?_
    refine a_cv0 q234_1173 rfl rfl ⟨rfl, rfl⟩ rfl ?_
    refine c_X10_thrown ?_
    refine ck_r ?_
    refine AW.ti (show _ = (1 : Int32) from rfl) ?_
    refine a_iload q234_1176 rfl ?_
    refine a_icmp_eq (tgt := 1183) q234_1178 (by decide) (fun zc1178 => ?_) (fun zc1178 => absurd (rfl) zc1178)
    refine a_iload q234_1183 rfl ?_
    refine a_if_ne (tgt := 1200) q234_1185 (by decide) (fun zc1185 => ?_) (fun zc1185 => absurd zc1185 (by decide))
    refine a_goto (tgt := 2206) q234_1200 (by decide) ?_
    refine AW.pop_less (x := (7, _)) (lv' := [(0, _), (1, _), (2, _), (3, _), (4, _), (5, _), (6, _)]) ?_
    refine AW.pop_less (x := (6, _)) (lv' := [(0, _), (1, _), (2, _), (3, _), (4, _), (5, _)]) ?_
    exact AW.wide (bc' := bC) (bs' := bS) (show bC ≤ bC + 1 from Nat.le_succ bC) (show bS ≤ bS + 1 from Nat.le_succ bS) zk
  · skip
    obtain ⟨ze, zk⟩ := h2 i j y2 y3 y4 y5 y6
    subst ze
    refine ck_r ?_
    refine a_istore (i := 7) (lv' := [(0, _), (1, _), (2, _), (3, _), (4, _), (5, _), (6, _), (7, _)]) q234_1170 rfl rfl ?_
    refine a_aload_n (i := 2) q234_1172 rfl rfl ?_
    refine a_cv0 q234_1173 rfl rfl ⟨rfl, rfl⟩ rfl ?_
    refine c_X10_thrown ?_
    refine ck_r ?_
    refine AW.ti (show _ = (2 : Int32) from rfl) ?_
    refine a_iload q234_1176 rfl ?_
    refine a_icmp_eq (tgt := 1183) q234_1178 (by decide) (fun zc1178 => ?_) (fun zc1178 => absurd (rfl) zc1178)
    refine a_iload q234_1183 rfl ?_
    refine a_if_ne (tgt := 1200) q234_1185 (by decide) (fun zc1185 => ?_) (fun zc1185 => absurd zc1185 (by decide))
    refine a_goto (tgt := 2206) q234_1200 (by decide) ?_
    refine AW.pop_less (x := (7, _)) (lv' := [(0, _), (1, _), (2, _), (3, _), (4, _), (5, _), (6, _)]) ?_
    refine AW.pop_less (x := (6, _)) (lv' := [(0, _), (1, _), (2, _), (3, _), (4, _), (5, _)]) ?_
    exact AW.wide (bc' := bC) (bs' := bS) (show bC ≤ bC + 1 from Nat.le_succ bC) (show bS ≤ bS + 1 from Nat.le_succ bS) zk
  · skip
    obtain ⟨ze, zv, zk⟩ := h3 i j y2 y3 y4 y5 y6
    subst ze
    refine ck_r ?_
    refine a_istore (i := 7) (lv' := [(0, _), (1, _), (2, _), (3, _), (4, _), (5, _), (6, _), (7, _)]) q234_1170 rfl rfl ?_
    refine a_aload_n (i := 2) q234_1172 rfl rfl ?_
    refine a_cv0 q234_1173 rfl rfl ⟨rfl, rfl⟩ rfl ?_
    refine c_X10_thrown ?_
    refine ck_r ?_
    refine AW.ti (show _ = (0 : Int32) from rfl) ?_
    refine a_iload q234_1176 rfl ?_
    refine a_icmp_eq (tgt := 1183) q234_1178 (by decide) (fun zc1178 => ?_) (fun zc1178 => absurd (rfl) zc1178)
    refine a_iload q234_1183 rfl ?_
    refine a_if_ne (tgt := 1200) q234_1185 (by decide) (fun zc1185 => absurd zc1185 (by decide)) (fun zc1185 => ?_)
    refine a_aload_n (i := 3) q234_1188 rfl rfl ?_
    refine a_iconst (v := 0) q234_1189 (by decide) ?_
    refine a_lald' (j := 0) q234_1190 rfl rfl (by decide) (by decide) ?_
    refine AW.tl zv ?_
    refine a_iload q234_1191 rfl ?_
    refine a_i2l q234_1193 ?_
    refine a_lcmp q234_1194 ?_
    refine a_if_eq (tgt := 1200) q234_1195 (by decide) (fun zc1195 => ?_) (fun zc1195 => absurd ((lg_cmp_eq _ _).mpr rfl) zc1195)
    refine a_goto (tgt := 2206) q234_1200 (by decide) ?_
    refine AW.pop_less (x := (7, _)) (lv' := [(0, _), (1, _), (2, _), (3, _), (4, _), (5, _), (6, _)]) ?_
    refine AW.pop_less (x := (6, _)) (lv' := [(0, _), (1, _), (2, _), (3, _), (4, _), (5, _)]) ?_
    exact AW.wide (bc' := bC) (bs' := bS) (show bC ≤ bC + 1 from Nat.le_succ bC) (show bS ≤ bS + 1 from Nat.le_succ bS) zk

theorem opB_setWeight {X : XS} {I : Nat → Int32} {A : Nat → Nat → Int32} {L : Nat → Nat → Int64} {O : Nat → UInt64} {Q : AO → AH → Prop} {ii bC bS : Nat} {ev : Int32} (hX : X.1 ≤ 3584) (hi : ii + 7 ≤ X.1)  (h1 : ¬ isRule (X.2 (ii + 1)) → ev = 1 ∧ AW X 234 2206 [(0, .ref 1003), (1, .ref 0), (2, .ref 21), (3, .ref 35), (4, .ref 36), (5, .int (nI ii))] [] (hp (va_up I 26 1) A L O) bC bS Q) (h2 : isRule (X.2 (ii + 1)) → ¬ (0 ≤ (X.2 (ii + 2)) ∧ (X.2 (ii + 2)) ≤ 99) → ev = 2 ∧ AW X 234 2206 [(0, .ref 1003), (1, .ref 0), (2, .ref 21), (3, .ref 35), (4, .ref 36), (5, .int (nI ii))] [] (hp (va_up I 26 2) A L O) bC bS Q) (h3 : ∀ j, j < 8 → (X.2 (ii + 1)) = nI j → (0 ≤ (X.2 (ii + 2)) ∧ (X.2 (ii + 2)) ≤ 99) → ev = 0 ∧ L 35 0 = ((A 24 j)).toInt64 ∧ AW X 234 2206 [(0, .ref 1003), (1, .ref 0), (2, .ref 21), (3, .ref 35), (4, .ref 36), (5, .int (nI ii))] [] (hp (va_up (va_up I 26 0) 29 0) (va_up A 24 (upd (A 24) j (X.2 (ii + 2)))) L O) bC bS Q) : AW X 234 1222 [(0, .ref 1003), (1, .ref 0), (2, .ref 21), (3, .ref 35), (4, .ref 36), (5, .int (nI ii)), (6, .int ev)] [] (hp I A L O) (bC + 1) (bS + 1) Q := by
  refine a_aload_n (i := 2) q234_1222 rfl rfl ?_
  refine a_aload_n (i := 0) q234_1223 rfl rfl ?_
  refine a_iload q234_1224 rfl ?_
  refine a_iconst (v := 1) q234_1226 (by decide) ?_
  refine a_iadd q234_1227 ?_
  refine a_scr (k := ii + 1) q234_1228 (nI_add ii 1) (by omega) hX ?_
  refine a_aload_n (i := 0) q234_1229 rfl rfl ?_
  refine a_iload q234_1230 rfl ?_
  refine a_iconst (v := 2) q234_1232 (by decide) ?_
  refine a_iadd q234_1233 ?_
  refine a_scr (k := ii + 2) q234_1234 (nI_add ii 2) (by omega) hX ?_
  refine a_cv2 q234_1235 rfl rfl ⟨rfl, rfl⟩ rfl ?_
  refine c_X10_setWeight  (h1 := fun y0 => ?_) (h2 := fun y0 y1 => ?_) (h3 := fun j y1 y2 y3 => ?_)
  · skip
    obtain ⟨ze, zk⟩ := h1 y0
    subst ze
    refine ck_r ?_
    refine a_istore (i := 7) (lv' := [(0, _), (1, _), (2, _), (3, _), (4, _), (5, _), (6, _), (7, _)]) q234_1238 rfl rfl ?_
    refine a_aload_n (i := 2) q234_1240 rfl rfl ?_
    refine a_cv0 q234_1241 rfl rfl ⟨rfl, rfl⟩ rfl ?_
    refine c_X10_thrown ?_
    refine ck_r ?_
    refine AW.ti (show _ = (1 : Int32) from rfl) ?_
    refine a_iload q234_1244 rfl ?_
    refine a_icmp_eq (tgt := 1251) q234_1246 (by decide) (fun zc1246 => ?_) (fun zc1246 => absurd (rfl) zc1246)
    refine a_iload q234_1251 rfl ?_
    refine a_if_ne (tgt := 1268) q234_1253 (by decide) (fun zc1253 => ?_) (fun zc1253 => absurd zc1253 (by decide))
    refine a_goto (tgt := 2206) q234_1268 (by decide) ?_
    refine AW.pop_less (x := (7, _)) (lv' := [(0, _), (1, _), (2, _), (3, _), (4, _), (5, _), (6, _)]) ?_
    refine AW.pop_less (x := (6, _)) (lv' := [(0, _), (1, _), (2, _), (3, _), (4, _), (5, _)]) ?_
    exact AW.wide (bc' := bC) (bs' := bS) (show bC ≤ bC + 1 from Nat.le_succ bC) (show bS ≤ bS + 1 from Nat.le_succ bS) zk
  · skip
    obtain ⟨ze, zk⟩ := h2 y0 y1
    subst ze
    refine ck_r ?_
    refine a_istore (i := 7) (lv' := [(0, _), (1, _), (2, _), (3, _), (4, _), (5, _), (6, _), (7, _)]) q234_1238 rfl rfl ?_
    refine a_aload_n (i := 2) q234_1240 rfl rfl ?_
    refine a_cv0 q234_1241 rfl rfl ⟨rfl, rfl⟩ rfl ?_
    refine c_X10_thrown ?_
    refine ck_r ?_
    refine AW.ti (show _ = (2 : Int32) from rfl) ?_
    refine a_iload q234_1244 rfl ?_
    refine a_icmp_eq (tgt := 1251) q234_1246 (by decide) (fun zc1246 => ?_) (fun zc1246 => absurd (rfl) zc1246)
    refine a_iload q234_1251 rfl ?_
    refine a_if_ne (tgt := 1268) q234_1253 (by decide) (fun zc1253 => ?_) (fun zc1253 => absurd zc1253 (by decide))
    refine a_goto (tgt := 2206) q234_1268 (by decide) ?_
    refine AW.pop_less (x := (7, _)) (lv' := [(0, _), (1, _), (2, _), (3, _), (4, _), (5, _), (6, _)]) ?_
    refine AW.pop_less (x := (6, _)) (lv' := [(0, _), (1, _), (2, _), (3, _), (4, _), (5, _)]) ?_
    exact AW.wide (bc' := bC) (bs' := bS) (show bC ≤ bC + 1 from Nat.le_succ bC) (show bS ≤ bS + 1 from Nat.le_succ bS) zk
  · skip
    obtain ⟨ze, zv, zk⟩ := h3 j y1 y2 y3
    subst ze
    refine ck_r ?_
    refine a_istore (i := 7) (lv' := [(0, _), (1, _), (2, _), (3, _), (4, _), (5, _), (6, _), (7, _)]) q234_1238 rfl rfl ?_
    refine a_aload_n (i := 2) q234_1240 rfl rfl ?_
    refine a_cv0 q234_1241 rfl rfl ⟨rfl, rfl⟩ rfl ?_
    refine c_X10_thrown ?_
    refine ck_r ?_
    refine AW.ti (show _ = (0 : Int32) from rfl) ?_
    refine a_iload q234_1244 rfl ?_
    refine a_icmp_eq (tgt := 1251) q234_1246 (by decide) (fun zc1246 => ?_) (fun zc1246 => absurd (rfl) zc1246)
    refine a_iload q234_1251 rfl ?_
    refine a_if_ne (tgt := 1268) q234_1253 (by decide) (fun zc1253 => absurd zc1253 (by decide)) (fun zc1253 => ?_)
    refine a_aload_n (i := 3) q234_1256 rfl rfl ?_
    refine a_iconst (v := 0) q234_1257 (by decide) ?_
    refine a_lald' (j := 0) q234_1258 rfl rfl (by decide) (by decide) ?_
    refine AW.tl zv ?_
    refine a_iload q234_1259 rfl ?_
    refine a_i2l q234_1261 ?_
    refine a_lcmp q234_1262 ?_
    refine a_if_eq (tgt := 1268) q234_1263 (by decide) (fun zc1263 => ?_) (fun zc1263 => absurd ((lg_cmp_eq _ _).mpr rfl) zc1263)
    refine a_goto (tgt := 2206) q234_1268 (by decide) ?_
    refine AW.pop_less (x := (7, _)) (lv' := [(0, _), (1, _), (2, _), (3, _), (4, _), (5, _), (6, _)]) ?_
    refine AW.pop_less (x := (6, _)) (lv' := [(0, _), (1, _), (2, _), (3, _), (4, _), (5, _)]) ?_
    exact AW.wide (bc' := bC) (bs' := bS) (show bC ≤ bC + 1 from Nat.le_succ bC) (show bS ≤ bS + 1 from Nat.le_succ bS) zk

theorem opB_allowed {X : XS} {I : Nat → Int32} {A : Nat → Nat → Int32} {L : Nat → Nat → Int64} {O : Nat → UInt64} {Q : AO → AH → Prop} {ii bC bS : Nat} {ev : Int32} (hX : X.1 ≤ 3584) (hi : ii + 7 ≤ X.1) {n : Nat} (hn : I 20 = nI n) (hn40 : n ≤ 40) (hg : vch (A 30)) (hq : ev = ((mkI (va_up I 26 0) n A) 24) ∧ AW X 234 2206 [(0, .ref 1003), (1, .ref 0), (2, .ref 21), (3, .ref 35), (4, .ref 36), (5, .int (nI ii))] [] (hp (mkI (va_up I 26 0) n A) (mkA (va_up I 26 0) n A) L O) bC bS Q) : AW X 234 1275 [(0, .ref 1003), (1, .ref 0), (2, .ref 21), (3, .ref 35), (4, .ref 36), (5, .int (nI ii))] [.int ev] (hp I A L O) (bC + 1) (bS + 1) Q := by
  refine a_aload_n (i := 2) q234_1275 rfl rfl ?_
  refine a_cv0 q234_1276 rfl rfl ⟨rfl, rfl⟩ rfl ?_
  refine c_X10_allowed (hn := hn) (hn40 := hn40) (hg := hg) (hq := ?_)
  · skip
    obtain ⟨ze, zk⟩ := hq
    subst ze
    refine ck_r ?_
    refine a_icmp_eq (tgt := 2206) q234_1279 (by decide) (fun zc1279 => ?_) (fun zc1279 => absurd (rfl) zc1279)
    
    exact AW.wide (bc' := bC) (bs' := bS) (show bC ≤ bC + 1 from Nat.le_succ bC) (show bS ≤ bS + 1 from Nat.le_succ bS) zk

theorem opB_cost {X : XS} {I : Nat → Int32} {A : Nat → Nat → Int32} {L : Nat → Nat → Int64} {O : Nat → UInt64} {Q : AO → AH → Prop} {ii bC bS : Nat} {ev : Int32} (hX : X.1 ≤ 3584) (hi : ii + 7 ≤ X.1) {n : Nat} (hn : I 20 = nI n) (hn40 : n ≤ 40) (hg : vch (A 30)) {k : Nat} (hk : mkI I n A 22 = nI k) (hk5 : k ≤ 5) (h1 : ¬ inRow k (X.2 (ii + 1)) → ev = 1 ∧ AW X 234 2206 [(0, .ref 1003), (1, .ref 0), (2, .ref 21), (3, .ref 35), (4, .ref 36), (5, .int (nI ii))] [] (hp (va_up (mkI I n A) 26 1) (mkA I n A) L O) bC bS Q) (h0 : ∀ j, j < k → (X.2 (ii + 1)) = nI j → ev = 0 ∧ L 35 0 = (((mkA I n A) 33 j)).toInt64 ∧ AW X 234 2206 [(0, .ref 1003), (1, .ref 0), (2, .ref 21), (3, .ref 35), (4, .ref 36), (5, .int (nI ii))] [] (hp (va_up (mkI I n A) 26 0) (mkA I n A) L O) bC bS Q) : AW X 234 1297 [(0, .ref 1003), (1, .ref 0), (2, .ref 21), (3, .ref 35), (4, .ref 36), (5, .int (nI ii)), (6, .int ev)] [] (hp I A L O) (bC + 1) (bS + 1) Q := by
  refine a_aload_n (i := 2) q234_1297 rfl rfl ?_
  refine a_aload_n (i := 0) q234_1298 rfl rfl ?_
  refine a_iload q234_1299 rfl ?_
  refine a_iconst (v := 1) q234_1301 (by decide) ?_
  refine a_iadd q234_1302 ?_
  refine a_scr (k := ii + 1) q234_1303 (nI_add ii 1) (by omega) hX ?_
  refine a_cv1 q234_1304 rfl rfl ⟨rfl, rfl⟩ rfl ?_
  refine c_X10_cost (hn := hn) (hn40 := hn40) (hg := hg) (hk := hk) (hk5 := hk5) (h1 := fun y0 => ?_) (h0 := fun j y1 y2 => ?_)
  · skip
    obtain ⟨ze, zk⟩ := h1 y0
    subst ze
    refine ck_r ?_
    refine a_istore (i := 7) (lv' := [(0, _), (1, _), (2, _), (3, _), (4, _), (5, _), (6, _), (7, _)]) q234_1307 rfl rfl ?_
    refine a_aload_n (i := 2) q234_1309 rfl rfl ?_
    refine a_cv0 q234_1310 rfl rfl ⟨rfl, rfl⟩ rfl ?_
    refine c_X10_thrown ?_
    refine ck_r ?_
    refine AW.ti (show _ = (1 : Int32) from rfl) ?_
    refine a_iload q234_1313 rfl ?_
    refine a_icmp_eq (tgt := 1320) q234_1315 (by decide) (fun zc1315 => ?_) (fun zc1315 => absurd (rfl) zc1315)
    refine a_iload q234_1320 rfl ?_
    refine a_if_ne (tgt := 1337) q234_1322 (by decide) (fun zc1322 => ?_) (fun zc1322 => absurd zc1322 (by decide))
    refine a_goto (tgt := 2206) q234_1337 (by decide) ?_
    refine AW.pop_less (x := (7, _)) (lv' := [(0, _), (1, _), (2, _), (3, _), (4, _), (5, _), (6, _)]) ?_
    refine AW.pop_less (x := (6, _)) (lv' := [(0, _), (1, _), (2, _), (3, _), (4, _), (5, _)]) ?_
    exact AW.wide (bc' := bC) (bs' := bS) (show bC ≤ bC + 1 from Nat.le_succ bC) (show bS ≤ bS + 1 from Nat.le_succ bS) zk
  · skip
    obtain ⟨ze, zv, zk⟩ := h0 j y1 y2
    subst ze
    refine ck_r ?_
    refine a_istore (i := 7) (lv' := [(0, _), (1, _), (2, _), (3, _), (4, _), (5, _), (6, _), (7, _)]) q234_1307 rfl rfl ?_
    refine a_aload_n (i := 2) q234_1309 rfl rfl ?_
    refine a_cv0 q234_1310 rfl rfl ⟨rfl, rfl⟩ rfl ?_
    refine c_X10_thrown ?_
    refine ck_r ?_
    refine AW.ti (show _ = (0 : Int32) from rfl) ?_
    refine a_iload q234_1313 rfl ?_
    refine a_icmp_eq (tgt := 1320) q234_1315 (by decide) (fun zc1315 => ?_) (fun zc1315 => absurd (rfl) zc1315)
    refine a_iload q234_1320 rfl ?_
    refine a_if_ne (tgt := 1337) q234_1322 (by decide) (fun zc1322 => absurd zc1322 (by decide)) (fun zc1322 => ?_)
    refine a_aload_n (i := 3) q234_1325 rfl rfl ?_
    refine a_iconst (v := 0) q234_1326 (by decide) ?_
    refine a_lald' (j := 0) q234_1327 rfl rfl (by decide) (by decide) ?_
    refine AW.tl zv ?_
    refine a_iload q234_1328 rfl ?_
    refine a_i2l q234_1330 ?_
    refine a_lcmp q234_1331 ?_
    refine a_if_eq (tgt := 1337) q234_1332 (by decide) (fun zc1332 => ?_) (fun zc1332 => absurd ((lg_cmp_eq _ _).mpr rfl) zc1332)
    refine a_goto (tgt := 2206) q234_1337 (by decide) ?_
    refine AW.pop_less (x := (7, _)) (lv' := [(0, _), (1, _), (2, _), (3, _), (4, _), (5, _), (6, _)]) ?_
    refine AW.pop_less (x := (6, _)) (lv' := [(0, _), (1, _), (2, _), (3, _), (4, _), (5, _)]) ?_
    exact AW.wide (bc' := bC) (bs' := bS) (show bC ≤ bC + 1 from Nat.le_succ bC) (show bS ≤ bS + 1 from Nat.le_succ bS) zk

theorem opB_costByTrying {X : XS} {I : Nat → Int32} {A : Nat → Nat → Int32} {L : Nat → Nat → Int64} {O : Nat → UInt64} {Q : AO → AH → Prop} {ii bC bS : Nat} {ev : Int32} (hX : X.1 ≤ 3584) (hi : ii + 7 ≤ X.1) {n : Nat} (hn : I 20 = nI n) (hn40 : n ≤ 40) (hg : vch (A 30)) {k : Nat} (hk : mkI (va_up I 26 0) n A 22 = nI k) (hk5 : k ≤ 5) (h1 : 3 < usM A n 6 → ev = 1 ∧ AW X 234 2206 [(0, .ref 1003), (1, .ref 0), (2, .ref 21), (3, .ref 35), (4, .ref 36), (5, .int (nI ii))] [] (hp (va_up I 26 1) A L O) bC bS Q) (h2 : ¬ 3 < usM A n 6 → ¬ inRow k (X.2 (ii + 1)) → ev = 2 ∧ AW X 234 2206 [(0, .ref 1003), (1, .ref 0), (2, .ref 21), (3, .ref 35), (4, .ref 36), (5, .int (nI ii))] [] (hp (va_up (mkI (va_up I 26 0) n A) 26 2) (mkA (va_up I 26 0) n A) L O) bC bS Q) (h0 : ¬ 3 < usM A n 6 → ∀ j, j < k → (X.2 (ii + 1)) = nI j → ev = 0 ∧ L 35 0 = (((mkA (va_up I 26 0) n A) 33 j)).toInt64 ∧ AW X 234 2206 [(0, .ref 1003), (1, .ref 0), (2, .ref 21), (3, .ref 35), (4, .ref 36), (5, .int (nI ii))] [] (hp (va_up (mkI (va_up I 26 0) n A) 26 0) (mkA (va_up I 26 0) n A) L O) bC bS Q) : AW X 234 1353 [(0, .ref 1003), (1, .ref 0), (2, .ref 21), (3, .ref 35), (4, .ref 36), (5, .int (nI ii)), (6, .int ev)] [] (hp I A L O) (bC + 1) (bS + 1) Q := by
  refine a_aload_n (i := 2) q234_1353 rfl rfl ?_
  refine a_aload_n (i := 0) q234_1354 rfl rfl ?_
  refine a_iload q234_1355 rfl ?_
  refine a_iconst (v := 1) q234_1357 (by decide) ?_
  refine a_iadd q234_1358 ?_
  refine a_scr (k := ii + 1) q234_1359 (nI_add ii 1) (by omega) hX ?_
  refine a_cv1 q234_1360 rfl rfl ⟨rfl, rfl⟩ rfl ?_
  refine c_X10_costByTrying (hn := hn) (hn40 := hn40) (hg := hg) (hk := hk) (hk5 := hk5) (h1 := fun y0 => ?_) (h2 := fun y0 y1 => ?_) (h0 := fun y0 j y2 y3 => ?_)
  · skip
    obtain ⟨ze, zk⟩ := h1 y0
    subst ze
    refine ck_r ?_
    refine a_istore (i := 7) (lv' := [(0, _), (1, _), (2, _), (3, _), (4, _), (5, _), (6, _), (7, _)]) q234_1363 rfl rfl ?_
    refine a_aload_n (i := 2) q234_1365 rfl rfl ?_
    refine a_cv0 q234_1366 rfl rfl ⟨rfl, rfl⟩ rfl ?_
    refine c_X10_thrown ?_
    refine ck_r ?_
    refine AW.ti (show _ = (1 : Int32) from rfl) ?_
    refine a_iload q234_1369 rfl ?_
    refine a_icmp_eq (tgt := 1376) q234_1371 (by decide) (fun zc1371 => ?_) (fun zc1371 => absurd (rfl) zc1371)
    refine a_iload q234_1376 rfl ?_
    refine a_if_ne (tgt := 1393) q234_1378 (by decide) (fun zc1378 => ?_) (fun zc1378 => absurd zc1378 (by decide))
    refine a_goto (tgt := 2206) q234_1393 (by decide) ?_
    refine AW.pop_less (x := (7, _)) (lv' := [(0, _), (1, _), (2, _), (3, _), (4, _), (5, _), (6, _)]) ?_
    refine AW.pop_less (x := (6, _)) (lv' := [(0, _), (1, _), (2, _), (3, _), (4, _), (5, _)]) ?_
    exact AW.wide (bc' := bC) (bs' := bS) (show bC ≤ bC + 1 from Nat.le_succ bC) (show bS ≤ bS + 1 from Nat.le_succ bS) zk
  · skip
    obtain ⟨ze, zk⟩ := h2 y0 y1
    subst ze
    refine ck_r ?_
    refine a_istore (i := 7) (lv' := [(0, _), (1, _), (2, _), (3, _), (4, _), (5, _), (6, _), (7, _)]) q234_1363 rfl rfl ?_
    refine a_aload_n (i := 2) q234_1365 rfl rfl ?_
    refine a_cv0 q234_1366 rfl rfl ⟨rfl, rfl⟩ rfl ?_
    refine c_X10_thrown ?_
    refine ck_r ?_
    refine AW.ti (show _ = (2 : Int32) from rfl) ?_
    refine a_iload q234_1369 rfl ?_
    refine a_icmp_eq (tgt := 1376) q234_1371 (by decide) (fun zc1371 => ?_) (fun zc1371 => absurd (rfl) zc1371)
    refine a_iload q234_1376 rfl ?_
    refine a_if_ne (tgt := 1393) q234_1378 (by decide) (fun zc1378 => ?_) (fun zc1378 => absurd zc1378 (by decide))
    refine a_goto (tgt := 2206) q234_1393 (by decide) ?_
    refine AW.pop_less (x := (7, _)) (lv' := [(0, _), (1, _), (2, _), (3, _), (4, _), (5, _), (6, _)]) ?_
    refine AW.pop_less (x := (6, _)) (lv' := [(0, _), (1, _), (2, _), (3, _), (4, _), (5, _)]) ?_
    exact AW.wide (bc' := bC) (bs' := bS) (show bC ≤ bC + 1 from Nat.le_succ bC) (show bS ≤ bS + 1 from Nat.le_succ bS) zk
  · skip
    obtain ⟨ze, zv, zk⟩ := h0 y0 j y2 y3
    subst ze
    refine ck_r ?_
    refine a_istore (i := 7) (lv' := [(0, _), (1, _), (2, _), (3, _), (4, _), (5, _), (6, _), (7, _)]) q234_1363 rfl rfl ?_
    refine a_aload_n (i := 2) q234_1365 rfl rfl ?_
    refine a_cv0 q234_1366 rfl rfl ⟨rfl, rfl⟩ rfl ?_
    refine c_X10_thrown ?_
    refine ck_r ?_
    refine AW.ti (show _ = (0 : Int32) from rfl) ?_
    refine a_iload q234_1369 rfl ?_
    refine a_icmp_eq (tgt := 1376) q234_1371 (by decide) (fun zc1371 => ?_) (fun zc1371 => absurd (rfl) zc1371)
    refine a_iload q234_1376 rfl ?_
    refine a_if_ne (tgt := 1393) q234_1378 (by decide) (fun zc1378 => absurd zc1378 (by decide)) (fun zc1378 => ?_)
    refine a_aload_n (i := 3) q234_1381 rfl rfl ?_
    refine a_iconst (v := 0) q234_1382 (by decide) ?_
    refine a_lald' (j := 0) q234_1383 rfl rfl (by decide) (by decide) ?_
    refine AW.tl zv ?_
    refine a_iload q234_1384 rfl ?_
    refine a_i2l q234_1386 ?_
    refine a_lcmp q234_1387 ?_
    refine a_if_eq (tgt := 1393) q234_1388 (by decide) (fun zc1388 => ?_) (fun zc1388 => absurd ((lg_cmp_eq _ _).mpr rfl) zc1388)
    refine a_goto (tgt := 2206) q234_1393 (by decide) ?_
    refine AW.pop_less (x := (7, _)) (lv' := [(0, _), (1, _), (2, _), (3, _), (4, _), (5, _), (6, _)]) ?_
    refine AW.pop_less (x := (6, _)) (lv' := [(0, _), (1, _), (2, _), (3, _), (4, _), (5, _)]) ?_
    exact AW.wide (bc' := bC) (bs' := bS) (show bC ≤ bC + 1 from Nat.le_succ bC) (show bS ≤ bS + 1 from Nat.le_succ bS) zk

theorem opB_mark {X : XS} {I : Nat → Int32} {A : Nat → Nat → Int32} {L : Nat → Nat → Int64} {O : Nat → UInt64} {Q : AO → AH → Prop} {ii bC bS : Nat} {ev : Int32} (hX : X.1 ≤ 3584) (hi : ii + 7 ≤ X.1) {n : Nat} (hn : I 20 = nI n) (hn40 : n ≤ 40) (hg : vch (A 30)) {k : Nat} (hk : mkI I n A 22 = nI k) (hk5 : k ≤ 5) (h1 : ¬ inRow k (X.2 (ii + 1)) → ev = 1 ∧ AW X 234 2206 [(0, .ref 1003), (1, .ref 0), (2, .ref 21), (3, .ref 35), (4, .ref 36), (5, .int (nI ii))] [] (hp (va_up (mkI I n A) 26 1) (mkA I n A) L O) bC bS Q) (h0 : ∀ j, j < k → (X.2 (ii + 1)) = nI j → ev = 0 ∧ L 35 0 = ((g_named ((mkA I n A) 32 (6 * j)))).toInt64 ∧ AW X 234 2206 [(0, .ref 1003), (1, .ref 0), (2, .ref 21), (3, .ref 35), (4, .ref 36), (5, .int (nI ii))] [] (hp (va_up (mkI I n A) 26 0) (mkA I n A) L O) bC bS Q) : AW X 234 1409 [(0, .ref 1003), (1, .ref 0), (2, .ref 21), (3, .ref 35), (4, .ref 36), (5, .int (nI ii)), (6, .int ev)] [] (hp I A L O) (bC + 1) (bS + 1) Q := by
  refine a_aload_n (i := 2) q234_1409 rfl rfl ?_
  refine a_aload_n (i := 0) q234_1410 rfl rfl ?_
  refine a_iload q234_1411 rfl ?_
  refine a_iconst (v := 1) q234_1413 (by decide) ?_
  refine a_iadd q234_1414 ?_
  refine a_scr (k := ii + 1) q234_1415 (nI_add ii 1) (by omega) hX ?_
  refine a_cv1 q234_1416 rfl rfl ⟨rfl, rfl⟩ rfl ?_
  refine c_X10_mark (hn := hn) (hn40 := hn40) (hg := hg) (hk := hk) (hk5 := hk5) (h1 := fun y0 => ?_) (h0 := fun j y1 y2 => ?_)
  · skip
    obtain ⟨ze, zk⟩ := h1 y0
    subst ze
    refine ck_r ?_
    refine a_istore (i := 7) (lv' := [(0, _), (1, _), (2, _), (3, _), (4, _), (5, _), (6, _), (7, _)]) q234_1419 rfl rfl ?_
    refine a_aload_n (i := 2) q234_1421 rfl rfl ?_
    refine a_cv0 q234_1422 rfl rfl ⟨rfl, rfl⟩ rfl ?_
    refine c_X10_thrown ?_
    refine ck_r ?_
    refine AW.ti (show _ = (1 : Int32) from rfl) ?_
    refine a_iload q234_1425 rfl ?_
    refine a_icmp_eq (tgt := 1432) q234_1427 (by decide) (fun zc1427 => ?_) (fun zc1427 => absurd (rfl) zc1427)
    refine a_iload q234_1432 rfl ?_
    refine a_if_ne (tgt := 1449) q234_1434 (by decide) (fun zc1434 => ?_) (fun zc1434 => absurd zc1434 (by decide))
    refine a_goto (tgt := 2206) q234_1449 (by decide) ?_
    refine AW.pop_less (x := (7, _)) (lv' := [(0, _), (1, _), (2, _), (3, _), (4, _), (5, _), (6, _)]) ?_
    refine AW.pop_less (x := (6, _)) (lv' := [(0, _), (1, _), (2, _), (3, _), (4, _), (5, _)]) ?_
    exact AW.wide (bc' := bC) (bs' := bS) (show bC ≤ bC + 1 from Nat.le_succ bC) (show bS ≤ bS + 1 from Nat.le_succ bS) zk
  · skip
    obtain ⟨ze, zv, zk⟩ := h0 j y1 y2
    subst ze
    refine ck_r ?_
    refine a_istore (i := 7) (lv' := [(0, _), (1, _), (2, _), (3, _), (4, _), (5, _), (6, _), (7, _)]) q234_1419 rfl rfl ?_
    refine a_aload_n (i := 2) q234_1421 rfl rfl ?_
    refine a_cv0 q234_1422 rfl rfl ⟨rfl, rfl⟩ rfl ?_
    refine c_X10_thrown ?_
    refine ck_r ?_
    refine AW.ti (show _ = (0 : Int32) from rfl) ?_
    refine a_iload q234_1425 rfl ?_
    refine a_icmp_eq (tgt := 1432) q234_1427 (by decide) (fun zc1427 => ?_) (fun zc1427 => absurd (rfl) zc1427)
    refine a_iload q234_1432 rfl ?_
    refine a_if_ne (tgt := 1449) q234_1434 (by decide) (fun zc1434 => absurd zc1434 (by decide)) (fun zc1434 => ?_)
    refine a_aload_n (i := 3) q234_1437 rfl rfl ?_
    refine a_iconst (v := 0) q234_1438 (by decide) ?_
    refine a_lald' (j := 0) q234_1439 rfl rfl (by decide) (by decide) ?_
    refine AW.tl zv ?_
    refine a_iload q234_1440 rfl ?_
    refine a_i2l q234_1442 ?_
    refine a_lcmp q234_1443 ?_
    refine a_if_eq (tgt := 1449) q234_1444 (by decide) (fun zc1444 => ?_) (fun zc1444 => absurd ((lg_cmp_eq _ _).mpr rfl) zc1444)
    refine a_goto (tgt := 2206) q234_1449 (by decide) ?_
    refine AW.pop_less (x := (7, _)) (lv' := [(0, _), (1, _), (2, _), (3, _), (4, _), (5, _), (6, _)]) ?_
    refine AW.pop_less (x := (6, _)) (lv' := [(0, _), (1, _), (2, _), (3, _), (4, _), (5, _)]) ?_
    exact AW.wide (bc' := bC) (bs' := bS) (show bC ≤ bC + 1 from Nat.le_succ bC) (show bS ≤ bS + 1 from Nat.le_succ bS) zk

theorem opB_aggregate {X : XS} {I : Nat → Int32} {A : Nat → Nat → Int32} {L : Nat → Nat → Int64} {O : Nat → UInt64} {Q : AO → AH → Prop} {ii bC bS : Nat} {ev : Int32} (hX : X.1 ≤ 3584) (hi : ii + 7 ≤ X.1) {n : Nat} (hn : I 20 = nI n) (hn40 : n ≤ 40) (hg : vch (A 30)) {k : Nat} (hk : mkI I n A 22 = nI k) (hk5 : k ≤ 5) (h1 : ¬ inRow k (X.2 (ii + 1)) → ev = 1 ∧ AW X 234 2206 [(0, .ref 1003), (1, .ref 0), (2, .ref 21), (3, .ref 35), (4, .ref 36), (5, .int (nI ii))] [] (hp (va_up (mkI I n A) 26 1) (mkA I n A) L O) bC bS Q) (h0 : ∀ j, j < k → (X.2 (ii + 1)) = nI j → ev = 0 ∧ L 35 0 = (((mkA I n A) 32 (6 * j + 1))).toInt64 ∧ AW X 234 2206 [(0, .ref 1003), (1, .ref 0), (2, .ref 21), (3, .ref 35), (4, .ref 36), (5, .int (nI ii))] [] (hp (va_up (mkI I n A) 26 0) (mkA I n A) L O) bC bS Q) : AW X 234 1465 [(0, .ref 1003), (1, .ref 0), (2, .ref 21), (3, .ref 35), (4, .ref 36), (5, .int (nI ii)), (6, .int ev)] [] (hp I A L O) (bC + 1) (bS + 1) Q := by
  refine a_aload_n (i := 2) q234_1465 rfl rfl ?_
  refine a_aload_n (i := 0) q234_1466 rfl rfl ?_
  refine a_iload q234_1467 rfl ?_
  refine a_iconst (v := 1) q234_1469 (by decide) ?_
  refine a_iadd q234_1470 ?_
  refine a_scr (k := ii + 1) q234_1471 (nI_add ii 1) (by omega) hX ?_
  refine a_cv1 q234_1472 rfl rfl ⟨rfl, rfl⟩ rfl ?_
  refine c_X10_aggregate (hn := hn) (hn40 := hn40) (hg := hg) (hk := hk) (hk5 := hk5) (h1 := fun y0 => ?_) (h0 := fun j y1 y2 => ?_)
  · skip
    obtain ⟨ze, zk⟩ := h1 y0
    subst ze
    refine ck_r ?_
    refine a_istore (i := 7) (lv' := [(0, _), (1, _), (2, _), (3, _), (4, _), (5, _), (6, _), (7, _)]) q234_1475 rfl rfl ?_
    refine a_aload_n (i := 2) q234_1477 rfl rfl ?_
    refine a_cv0 q234_1478 rfl rfl ⟨rfl, rfl⟩ rfl ?_
    refine c_X10_thrown ?_
    refine ck_r ?_
    refine AW.ti (show _ = (1 : Int32) from rfl) ?_
    refine a_iload q234_1481 rfl ?_
    refine a_icmp_eq (tgt := 1488) q234_1483 (by decide) (fun zc1483 => ?_) (fun zc1483 => absurd (rfl) zc1483)
    refine a_iload q234_1488 rfl ?_
    refine a_if_ne (tgt := 1505) q234_1490 (by decide) (fun zc1490 => ?_) (fun zc1490 => absurd zc1490 (by decide))
    refine a_goto (tgt := 2206) q234_1505 (by decide) ?_
    refine AW.pop_less (x := (7, _)) (lv' := [(0, _), (1, _), (2, _), (3, _), (4, _), (5, _), (6, _)]) ?_
    refine AW.pop_less (x := (6, _)) (lv' := [(0, _), (1, _), (2, _), (3, _), (4, _), (5, _)]) ?_
    exact AW.wide (bc' := bC) (bs' := bS) (show bC ≤ bC + 1 from Nat.le_succ bC) (show bS ≤ bS + 1 from Nat.le_succ bS) zk
  · skip
    obtain ⟨ze, zv, zk⟩ := h0 j y1 y2
    subst ze
    refine ck_r ?_
    refine a_istore (i := 7) (lv' := [(0, _), (1, _), (2, _), (3, _), (4, _), (5, _), (6, _), (7, _)]) q234_1475 rfl rfl ?_
    refine a_aload_n (i := 2) q234_1477 rfl rfl ?_
    refine a_cv0 q234_1478 rfl rfl ⟨rfl, rfl⟩ rfl ?_
    refine c_X10_thrown ?_
    refine ck_r ?_
    refine AW.ti (show _ = (0 : Int32) from rfl) ?_
    refine a_iload q234_1481 rfl ?_
    refine a_icmp_eq (tgt := 1488) q234_1483 (by decide) (fun zc1483 => ?_) (fun zc1483 => absurd (rfl) zc1483)
    refine a_iload q234_1488 rfl ?_
    refine a_if_ne (tgt := 1505) q234_1490 (by decide) (fun zc1490 => absurd zc1490 (by decide)) (fun zc1490 => ?_)
    refine a_aload_n (i := 3) q234_1493 rfl rfl ?_
    refine a_iconst (v := 0) q234_1494 (by decide) ?_
    refine a_lald' (j := 0) q234_1495 rfl rfl (by decide) (by decide) ?_
    refine AW.tl zv ?_
    refine a_iload q234_1496 rfl ?_
    refine a_i2l q234_1498 ?_
    refine a_lcmp q234_1499 ?_
    refine a_if_eq (tgt := 1505) q234_1500 (by decide) (fun zc1500 => ?_) (fun zc1500 => absurd ((lg_cmp_eq _ _).mpr rfl) zc1500)
    refine a_goto (tgt := 2206) q234_1505 (by decide) ?_
    refine AW.pop_less (x := (7, _)) (lv' := [(0, _), (1, _), (2, _), (3, _), (4, _), (5, _), (6, _)]) ?_
    refine AW.pop_less (x := (6, _)) (lv' := [(0, _), (1, _), (2, _), (3, _), (4, _), (5, _)]) ?_
    exact AW.wide (bc' := bC) (bs' := bS) (show bC ≤ bC + 1 from Nat.le_succ bC) (show bS ≤ bS + 1 from Nat.le_succ bS) zk

theorem opB_column {X : XS} {I : Nat → Int32} {A : Nat → Nat → Int32} {L : Nat → Nat → Int64} {O : Nat → UInt64} {Q : AO → AH → Prop} {ii bC bS : Nat} {ev : Int32} (hX : X.1 ≤ 3584) (hi : ii + 7 ≤ X.1) {n : Nat} (hn : I 20 = nI n) (hn40 : n ≤ 40) (hg : vch (A 30)) {k : Nat} (hk : mkI I n A 22 = nI k) (hk5 : k ≤ 5) (h1 : ¬ inRow k (X.2 (ii + 1)) → ev = 1 ∧ AW X 234 2206 [(0, .ref 1003), (1, .ref 0), (2, .ref 21), (3, .ref 35), (4, .ref 36), (5, .int (nI ii))] [] (hp (va_up (mkI I n A) 26 1) (mkA I n A) L O) bC bS Q) (h2 : inRow k (X.2 (ii + 1)) → ¬ isChan (X.2 (ii + 2)) → ev = 2 ∧ AW X 234 2206 [(0, .ref 1003), (1, .ref 0), (2, .ref 21), (3, .ref 35), (4, .ref 36), (5, .int (nI ii))] [] (hp (va_up (mkI I n A) 26 2) (mkA I n A) L O) bC bS Q) (h0 : ∀ j i, j < k → i < 4 → (X.2 (ii + 1)) = nI j → (X.2 (ii + 2)) = nI i → ev = 0 ∧ L 35 0 = (((mkA I n A) 32 (6 * j + 2 + i))).toInt64 ∧ AW X 234 2206 [(0, .ref 1003), (1, .ref 0), (2, .ref 21), (3, .ref 35), (4, .ref 36), (5, .int (nI ii))] [] (hp (va_up (mkI I n A) 26 0) (mkA I n A) L O) bC bS Q) : AW X 234 1527 [(0, .ref 1003), (1, .ref 0), (2, .ref 21), (3, .ref 35), (4, .ref 36), (5, .int (nI ii)), (6, .int ev)] [] (hp I A L O) (bC + 1) (bS + 1) Q := by
  refine a_aload_n (i := 2) q234_1527 rfl rfl ?_
  refine a_aload_n (i := 0) q234_1528 rfl rfl ?_
  refine a_iload q234_1529 rfl ?_
  refine a_iconst (v := 1) q234_1531 (by decide) ?_
  refine a_iadd q234_1532 ?_
  refine a_scr (k := ii + 1) q234_1533 (nI_add ii 1) (by omega) hX ?_
  refine a_aload_n (i := 0) q234_1534 rfl rfl ?_
  refine a_iload q234_1535 rfl ?_
  refine a_iconst (v := 2) q234_1537 (by decide) ?_
  refine a_iadd q234_1538 ?_
  refine a_scr (k := ii + 2) q234_1539 (nI_add ii 2) (by omega) hX ?_
  refine a_cv2 q234_1540 rfl rfl ⟨rfl, rfl⟩ rfl ?_
  refine c_X10_column (hn := hn) (hn40 := hn40) (hg := hg) (hk := hk) (hk5 := hk5) (h1 := fun y0 => ?_) (h2 := fun y0 y1 => ?_) (h0 := fun j i y2 y3 y4 y5 => ?_)
  · skip
    obtain ⟨ze, zk⟩ := h1 y0
    subst ze
    refine ck_r ?_
    refine a_istore (i := 7) (lv' := [(0, _), (1, _), (2, _), (3, _), (4, _), (5, _), (6, _), (7, _)]) q234_1543 rfl rfl ?_
    refine a_aload_n (i := 2) q234_1545 rfl rfl ?_
    refine a_cv0 q234_1546 rfl rfl ⟨rfl, rfl⟩ rfl ?_
    refine c_X10_thrown ?_
    refine ck_r ?_
    refine AW.ti (show _ = (1 : Int32) from rfl) ?_
    refine a_iload q234_1549 rfl ?_
    refine a_icmp_eq (tgt := 1556) q234_1551 (by decide) (fun zc1551 => ?_) (fun zc1551 => absurd (rfl) zc1551)
    refine a_iload q234_1556 rfl ?_
    refine a_if_ne (tgt := 1573) q234_1558 (by decide) (fun zc1558 => ?_) (fun zc1558 => absurd zc1558 (by decide))
    refine a_goto (tgt := 2206) q234_1573 (by decide) ?_
    refine AW.pop_less (x := (7, _)) (lv' := [(0, _), (1, _), (2, _), (3, _), (4, _), (5, _), (6, _)]) ?_
    refine AW.pop_less (x := (6, _)) (lv' := [(0, _), (1, _), (2, _), (3, _), (4, _), (5, _)]) ?_
    exact AW.wide (bc' := bC) (bs' := bS) (show bC ≤ bC + 1 from Nat.le_succ bC) (show bS ≤ bS + 1 from Nat.le_succ bS) zk
  · skip
    obtain ⟨ze, zk⟩ := h2 y0 y1
    subst ze
    refine ck_r ?_
    refine a_istore (i := 7) (lv' := [(0, _), (1, _), (2, _), (3, _), (4, _), (5, _), (6, _), (7, _)]) q234_1543 rfl rfl ?_
    refine a_aload_n (i := 2) q234_1545 rfl rfl ?_
    refine a_cv0 q234_1546 rfl rfl ⟨rfl, rfl⟩ rfl ?_
    refine c_X10_thrown ?_
    refine ck_r ?_
    refine AW.ti (show _ = (2 : Int32) from rfl) ?_
    refine a_iload q234_1549 rfl ?_
    refine a_icmp_eq (tgt := 1556) q234_1551 (by decide) (fun zc1551 => ?_) (fun zc1551 => absurd (rfl) zc1551)
    refine a_iload q234_1556 rfl ?_
    refine a_if_ne (tgt := 1573) q234_1558 (by decide) (fun zc1558 => ?_) (fun zc1558 => absurd zc1558 (by decide))
    refine a_goto (tgt := 2206) q234_1573 (by decide) ?_
    refine AW.pop_less (x := (7, _)) (lv' := [(0, _), (1, _), (2, _), (3, _), (4, _), (5, _), (6, _)]) ?_
    refine AW.pop_less (x := (6, _)) (lv' := [(0, _), (1, _), (2, _), (3, _), (4, _), (5, _)]) ?_
    exact AW.wide (bc' := bC) (bs' := bS) (show bC ≤ bC + 1 from Nat.le_succ bC) (show bS ≤ bS + 1 from Nat.le_succ bS) zk
  · skip
    obtain ⟨ze, zv, zk⟩ := h0 j i y2 y3 y4 y5
    subst ze
    refine ck_r ?_
    refine a_istore (i := 7) (lv' := [(0, _), (1, _), (2, _), (3, _), (4, _), (5, _), (6, _), (7, _)]) q234_1543 rfl rfl ?_
    refine a_aload_n (i := 2) q234_1545 rfl rfl ?_
    refine a_cv0 q234_1546 rfl rfl ⟨rfl, rfl⟩ rfl ?_
    refine c_X10_thrown ?_
    refine ck_r ?_
    refine AW.ti (show _ = (0 : Int32) from rfl) ?_
    refine a_iload q234_1549 rfl ?_
    refine a_icmp_eq (tgt := 1556) q234_1551 (by decide) (fun zc1551 => ?_) (fun zc1551 => absurd (rfl) zc1551)
    refine a_iload q234_1556 rfl ?_
    refine a_if_ne (tgt := 1573) q234_1558 (by decide) (fun zc1558 => absurd zc1558 (by decide)) (fun zc1558 => ?_)
    refine a_aload_n (i := 3) q234_1561 rfl rfl ?_
    refine a_iconst (v := 0) q234_1562 (by decide) ?_
    refine a_lald' (j := 0) q234_1563 rfl rfl (by decide) (by decide) ?_
    refine AW.tl zv ?_
    refine a_iload q234_1564 rfl ?_
    refine a_i2l q234_1566 ?_
    refine a_lcmp q234_1567 ?_
    refine a_if_eq (tgt := 1573) q234_1568 (by decide) (fun zc1568 => ?_) (fun zc1568 => absurd ((lg_cmp_eq _ _).mpr rfl) zc1568)
    refine a_goto (tgt := 2206) q234_1573 (by decide) ?_
    refine AW.pop_less (x := (7, _)) (lv' := [(0, _), (1, _), (2, _), (3, _), (4, _), (5, _), (6, _)]) ?_
    refine AW.pop_less (x := (6, _)) (lv' := [(0, _), (1, _), (2, _), (3, _), (4, _), (5, _)]) ?_
    exact AW.wide (bc' := bC) (bs' := bS) (show bC ≤ bC + 1 from Nat.le_succ bC) (show bS ≤ bS + 1 from Nat.le_succ bS) zk

theorem opB_setMargin {X : XS} {I : Nat → Int32} {A : Nat → Nat → Int32} {L : Nat → Nat → Int64} {O : Nat → UInt64} {Q : AO → AH → Prop} {ii bC bS : Nat} {ev : Int32} (hX : X.1 ≤ 3584) (hi : ii + 7 ≤ X.1)  (h1 : ¬ (0 ≤ (X.2 (ii + 1)) ∧ (X.2 (ii + 1)) ≤ 99) → ev = 1 ∧ AW X 234 2206 [(0, .ref 1003), (1, .ref 0), (2, .ref 21), (3, .ref 35), (4, .ref 36), (5, .int (nI ii))] [] (hp (va_up I 26 1) A L O) bC bS Q) (h0 : (0 ≤ (X.2 (ii + 1)) ∧ (X.2 (ii + 1)) ≤ 99) → ev = 0 ∧ L 35 0 = ((I 23)).toInt64 ∧ AW X 234 2206 [(0, .ref 1003), (1, .ref 0), (2, .ref 21), (3, .ref 35), (4, .ref 36), (5, .int (nI ii))] [] (hp (va_up (va_up I 26 0) 23 (X.2 (ii + 1))) A L O) bC bS Q) : AW X 234 1589 [(0, .ref 1003), (1, .ref 0), (2, .ref 21), (3, .ref 35), (4, .ref 36), (5, .int (nI ii)), (6, .int ev)] [] (hp I A L O) (bC + 1) (bS + 1) Q := by
  refine a_aload_n (i := 2) q234_1589 rfl rfl ?_
  refine a_aload_n (i := 0) q234_1590 rfl rfl ?_
  refine a_iload q234_1591 rfl ?_
  refine a_iconst (v := 1) q234_1593 (by decide) ?_
  refine a_iadd q234_1594 ?_
  refine a_scr (k := ii + 1) q234_1595 (nI_add ii 1) (by omega) hX ?_
  refine a_cv1 q234_1596 rfl rfl ⟨rfl, rfl⟩ rfl ?_
  refine c_X10_setMargin  (h1 := fun y0 => ?_) (h0 := fun y0 => ?_)
  · skip
    obtain ⟨ze, zk⟩ := h1 y0
    subst ze
    refine ck_r ?_
    refine a_istore (i := 7) (lv' := [(0, _), (1, _), (2, _), (3, _), (4, _), (5, _), (6, _), (7, _)]) q234_1599 rfl rfl ?_
    refine a_aload_n (i := 2) q234_1601 rfl rfl ?_
    refine a_cv0 q234_1602 rfl rfl ⟨rfl, rfl⟩ rfl ?_
    refine c_X10_thrown ?_
    refine ck_r ?_
    refine AW.ti (show _ = (1 : Int32) from rfl) ?_
    refine a_iload q234_1605 rfl ?_
    refine a_icmp_eq (tgt := 1612) q234_1607 (by decide) (fun zc1607 => ?_) (fun zc1607 => absurd (rfl) zc1607)
    refine a_iload q234_1612 rfl ?_
    refine a_if_ne (tgt := 1629) q234_1614 (by decide) (fun zc1614 => ?_) (fun zc1614 => absurd zc1614 (by decide))
    refine a_goto (tgt := 2206) q234_1629 (by decide) ?_
    refine AW.pop_less (x := (7, _)) (lv' := [(0, _), (1, _), (2, _), (3, _), (4, _), (5, _), (6, _)]) ?_
    refine AW.pop_less (x := (6, _)) (lv' := [(0, _), (1, _), (2, _), (3, _), (4, _), (5, _)]) ?_
    exact AW.wide (bc' := bC) (bs' := bS) (show bC ≤ bC + 1 from Nat.le_succ bC) (show bS ≤ bS + 1 from Nat.le_succ bS) zk
  · skip
    obtain ⟨ze, zv, zk⟩ := h0 y0
    subst ze
    refine ck_r ?_
    refine a_istore (i := 7) (lv' := [(0, _), (1, _), (2, _), (3, _), (4, _), (5, _), (6, _), (7, _)]) q234_1599 rfl rfl ?_
    refine a_aload_n (i := 2) q234_1601 rfl rfl ?_
    refine a_cv0 q234_1602 rfl rfl ⟨rfl, rfl⟩ rfl ?_
    refine c_X10_thrown ?_
    refine ck_r ?_
    refine AW.ti (show _ = (0 : Int32) from rfl) ?_
    refine a_iload q234_1605 rfl ?_
    refine a_icmp_eq (tgt := 1612) q234_1607 (by decide) (fun zc1607 => ?_) (fun zc1607 => absurd (rfl) zc1607)
    refine a_iload q234_1612 rfl ?_
    refine a_if_ne (tgt := 1629) q234_1614 (by decide) (fun zc1614 => absurd zc1614 (by decide)) (fun zc1614 => ?_)
    refine a_aload_n (i := 3) q234_1617 rfl rfl ?_
    refine a_iconst (v := 0) q234_1618 (by decide) ?_
    refine a_lald' (j := 0) q234_1619 rfl rfl (by decide) (by decide) ?_
    refine AW.tl zv ?_
    refine a_iload q234_1620 rfl ?_
    refine a_i2l q234_1622 ?_
    refine a_lcmp q234_1623 ?_
    refine a_if_eq (tgt := 1629) q234_1624 (by decide) (fun zc1624 => ?_) (fun zc1624 => absurd ((lg_cmp_eq _ _).mpr rfl) zc1624)
    refine a_goto (tgt := 2206) q234_1629 (by decide) ?_
    refine AW.pop_less (x := (7, _)) (lv' := [(0, _), (1, _), (2, _), (3, _), (4, _), (5, _), (6, _)]) ?_
    refine AW.pop_less (x := (6, _)) (lv' := [(0, _), (1, _), (2, _), (3, _), (4, _), (5, _)]) ?_
    exact AW.wide (bc' := bC) (bs' := bS) (show bC ≤ bC + 1 from Nat.le_succ bC) (show bS ≤ bS + 1 from Nat.le_succ bS) zk

theorem opB_pick {X : XS} {I : Nat → Int32} {A : Nat → Nat → Int32} {L : Nat → Nat → Int64} {O : Nat → UInt64} {Q : AO → AH → Prop} {ii bC bS : Nat} {ev : Int32} (hX : X.1 ≤ 3584) (hi : ii + 7 ≤ X.1) {n : Nat} (hn : I 20 = nI n) (hn40 : n ≤ 40) (hg : vch (A 30)) (hv : vch (A 31)) {q : Nat} (hf : I 21 = nI q) (hq4 : q ≤ 4) (h1 : (mkI I n A) 22 = 0 → ev = 1 ∧ AW X 234 2206 [(0, .ref 1003), (1, .ref 0), (2, .ref 21), (3, .ref 35), (4, .ref 36), (5, .int (nI ii))] [] (hp (va_up (mkI I n A) 26 1) (mkA I n A) L O) bC bS Q) (h2 : ¬ (mkI I n A) 22 = 0 → (¬ (mkI I n A) 28 = 0 ∧ m_fb ((mkI I n A) 27) (mkA I n A) ((mkA I n A) 31) = 0 ∧ m_cost n (mkA I n A) ((mkA I n A) 31) ≤ (mkA I n A) 33 0 + (mkI I n A) 23) → ev = 0 ∧ L 35 0 = 0 ∧ AW X 234 2206 [(0, .ref 1003), (1, .ref 0), (2, .ref 21), (3, .ref 35), (4, .ref 36), (5, .int (nI ii))] [] (hp (va_up (mkI I n A) 26 0) (mkA I n A) L O) bC bS Q) (h3 : ¬ (mkI I n A) 22 = 0 → ¬ (¬ (mkI I n A) 28 = 0 ∧ m_fb ((mkI I n A) 27) (mkA I n A) ((mkA I n A) 31) = 0 ∧ m_cost n (mkA I n A) ((mkA I n A) 31) ≤ (mkA I n A) 33 0 + (mkI I n A) 23) → (mkI I n A) 28 = 0 → ev = 0 ∧ L 35 0 = 1 ∧ AW X 234 2206 [(0, .ref 1003), (1, .ref 0), (2, .ref 21), (3, .ref 35), (4, .ref 36), (5, .int (nI ii))] [] (hp (va_up (va_up (mkI I n A) 26 0) 28 1) (va_up (mkA I n A) 31 (stc ((mkA I n A) 31) 0 ((mkA I n A) 32) 6)) L O) bC bS Q) (h4 : ¬ (mkI I n A) 22 = 0 → ¬ (¬ (mkI I n A) 28 = 0 ∧ m_fb ((mkI I n A) 27) (mkA I n A) ((mkA I n A) 31) = 0 ∧ m_cost n (mkA I n A) ((mkA I n A) 31) ≤ (mkA I n A) 33 0 + (mkI I n A) 23) → ¬ (mkI I n A) 28 = 0 → ev = 0 ∧ L 35 0 = 1 ∧ AW X 234 2206 [(0, .ref 1003), (1, .ref 0), (2, .ref 21), (3, .ref 35), (4, .ref 36), (5, .int (nI ii))] [] (hp (va_up (va_up (va_up (mkI I n A) 26 0) 21 (nI (kpN q))) 28 1) (va_up (va_up (mkA I n A) 34 (stc (shF ((mkA I n A) 34) 18) 0 ((mkA I n A) 31) 6)) 31 (stc ((mkA I n A) 31) 0 ((mkA I n A) 32) 6)) L O) bC bS Q) : AW X 234 1639 [(0, .ref 1003), (1, .ref 0), (2, .ref 21), (3, .ref 35), (4, .ref 36), (5, .int (nI ii)), (6, .int ev)] [] (hp I A L O) (bC + 1) (bS + 1) Q := by
  refine a_aload_n (i := 2) q234_1639 rfl rfl ?_
  refine a_cv0 q234_1640 rfl rfl ⟨rfl, rfl⟩ rfl ?_
  refine c_X10_pick (hn := hn) (hn40 := hn40) (hg := hg) (hv := hv) (hf := hf) (hq4 := hq4) (h1 := fun y0 => ?_) (h2 := fun y0 y1 => ?_) (h3 := fun y0 y1 y2 => ?_) (h4 := fun y0 y1 y2 => ?_)
  · skip
    obtain ⟨ze, zk⟩ := h1 y0
    subst ze
    refine ck_r ?_
    refine a_istore (i := 7) (lv' := [(0, _), (1, _), (2, _), (3, _), (4, _), (5, _), (6, _), (7, _)]) q234_1643 rfl rfl ?_
    refine a_aload_n (i := 2) q234_1645 rfl rfl ?_
    refine a_cv0 q234_1646 rfl rfl ⟨rfl, rfl⟩ rfl ?_
    refine c_X10_thrown ?_
    refine ck_r ?_
    refine AW.ti (show _ = (1 : Int32) from rfl) ?_
    refine a_iload q234_1649 rfl ?_
    refine a_icmp_eq (tgt := 1656) q234_1651 (by decide) (fun zc1651 => ?_) (fun zc1651 => absurd (rfl) zc1651)
    refine a_iload q234_1656 rfl ?_
    refine a_if_ne (tgt := 1680) q234_1658 (by decide) (fun zc1658 => ?_) (fun zc1658 => absurd zc1658 (by decide))
    refine a_goto (tgt := 2206) q234_1680 (by decide) ?_
    refine AW.pop_less (x := (7, _)) (lv' := [(0, _), (1, _), (2, _), (3, _), (4, _), (5, _), (6, _)]) ?_
    refine AW.pop_less (x := (6, _)) (lv' := [(0, _), (1, _), (2, _), (3, _), (4, _), (5, _)]) ?_
    exact AW.wide (bc' := bC) (bs' := bS) (show bC ≤ bC + 1 from Nat.le_succ bC) (show bS ≤ bS + 1 from Nat.le_succ bS) zk
  · skip
    obtain ⟨ze, zv, zk⟩ := h2 y0 y1
    subst ze
    refine ck_r ?_
    refine a_istore (i := 7) (lv' := [(0, _), (1, _), (2, _), (3, _), (4, _), (5, _), (6, _), (7, _)]) q234_1643 rfl rfl ?_
    refine a_aload_n (i := 2) q234_1645 rfl rfl ?_
    refine a_cv0 q234_1646 rfl rfl ⟨rfl, rfl⟩ rfl ?_
    refine c_X10_thrown ?_
    refine ck_r ?_
    refine AW.ti (show _ = (0 : Int32) from rfl) ?_
    refine a_iload q234_1649 rfl ?_
    refine a_icmp_eq (tgt := 1656) q234_1651 (by decide) (fun zc1651 => ?_) (fun zc1651 => absurd (rfl) zc1651)
    refine a_iload q234_1656 rfl ?_
    refine a_if_ne (tgt := 1680) q234_1658 (by decide) (fun zc1658 => absurd zc1658 (by decide)) (fun zc1658 => ?_)
    refine a_aload_n (i := 3) q234_1661 rfl rfl ?_
    refine a_iconst (v := 0) q234_1662 (by decide) ?_
    refine a_lald' (j := 0) q234_1663 rfl rfl (by decide) (by decide) ?_
    refine AW.tl zv ?_
    refine a_iload q234_1664 rfl ?_
    refine a_if_eq (tgt := 1673) q234_1666 (by decide) (fun zc1666 => ?_) (fun zc1666 => absurd (by decide) zc1666)
    refine a_lconst (v := 0) q234_1673 (by decide) ?_
    refine a_lcmp q234_1674 ?_
    refine a_if_eq (tgt := 1680) q234_1675 (by decide) (fun zc1675 => ?_) (fun zc1675 => absurd ((lg_cmp_eq _ _).mpr rfl) zc1675)
    refine a_goto (tgt := 2206) q234_1680 (by decide) ?_
    refine AW.pop_less (x := (7, _)) (lv' := [(0, _), (1, _), (2, _), (3, _), (4, _), (5, _), (6, _)]) ?_
    refine AW.pop_less (x := (6, _)) (lv' := [(0, _), (1, _), (2, _), (3, _), (4, _), (5, _)]) ?_
    exact AW.wide (bc' := bC) (bs' := bS) (show bC ≤ bC + 1 from Nat.le_succ bC) (show bS ≤ bS + 1 from Nat.le_succ bS) zk
  · skip
    obtain ⟨ze, zv, zk⟩ := h3 y0 y1 y2
    subst ze
    refine ck_r ?_
    refine a_istore (i := 7) (lv' := [(0, _), (1, _), (2, _), (3, _), (4, _), (5, _), (6, _), (7, _)]) q234_1643 rfl rfl ?_
    refine a_aload_n (i := 2) q234_1645 rfl rfl ?_
    refine a_cv0 q234_1646 rfl rfl ⟨rfl, rfl⟩ rfl ?_
    refine c_X10_thrown ?_
    refine ck_r ?_
    refine AW.ti (show _ = (0 : Int32) from rfl) ?_
    refine a_iload q234_1649 rfl ?_
    refine a_icmp_eq (tgt := 1656) q234_1651 (by decide) (fun zc1651 => ?_) (fun zc1651 => absurd (rfl) zc1651)
    refine a_iload q234_1656 rfl ?_
    refine a_if_ne (tgt := 1680) q234_1658 (by decide) (fun zc1658 => absurd zc1658 (by decide)) (fun zc1658 => ?_)
    refine a_aload_n (i := 3) q234_1661 rfl rfl ?_
    refine a_iconst (v := 0) q234_1662 (by decide) ?_
    refine a_lald' (j := 0) q234_1663 rfl rfl (by decide) (by decide) ?_
    refine AW.tl zv ?_
    refine a_iload q234_1664 rfl ?_
    refine a_if_eq (tgt := 1673) q234_1666 (by decide) (fun zc1666 => absurd zc1666 (by decide)) (fun zc1666 => ?_)
    refine a_lconst (v := 1) q234_1669 (by decide) ?_
    refine a_goto (tgt := 1674) q234_1670 (by decide) ?_
    refine a_lcmp q234_1674 ?_
    refine a_if_eq (tgt := 1680) q234_1675 (by decide) (fun zc1675 => ?_) (fun zc1675 => absurd ((lg_cmp_eq _ _).mpr rfl) zc1675)
    refine a_goto (tgt := 2206) q234_1680 (by decide) ?_
    refine AW.pop_less (x := (7, _)) (lv' := [(0, _), (1, _), (2, _), (3, _), (4, _), (5, _), (6, _)]) ?_
    refine AW.pop_less (x := (6, _)) (lv' := [(0, _), (1, _), (2, _), (3, _), (4, _), (5, _)]) ?_
    exact AW.wide (bc' := bC) (bs' := bS) (show bC ≤ bC + 1 from Nat.le_succ bC) (show bS ≤ bS + 1 from Nat.le_succ bS) zk
  · skip
    obtain ⟨ze, zv, zk⟩ := h4 y0 y1 y2
    subst ze
    refine ck_r ?_
    refine a_istore (i := 7) (lv' := [(0, _), (1, _), (2, _), (3, _), (4, _), (5, _), (6, _), (7, _)]) q234_1643 rfl rfl ?_
    refine a_aload_n (i := 2) q234_1645 rfl rfl ?_
    refine a_cv0 q234_1646 rfl rfl ⟨rfl, rfl⟩ rfl ?_
    refine c_X10_thrown ?_
    refine ck_r ?_
    refine AW.ti (show _ = (0 : Int32) from rfl) ?_
    refine a_iload q234_1649 rfl ?_
    refine a_icmp_eq (tgt := 1656) q234_1651 (by decide) (fun zc1651 => ?_) (fun zc1651 => absurd (rfl) zc1651)
    refine a_iload q234_1656 rfl ?_
    refine a_if_ne (tgt := 1680) q234_1658 (by decide) (fun zc1658 => absurd zc1658 (by decide)) (fun zc1658 => ?_)
    refine a_aload_n (i := 3) q234_1661 rfl rfl ?_
    refine a_iconst (v := 0) q234_1662 (by decide) ?_
    refine a_lald' (j := 0) q234_1663 rfl rfl (by decide) (by decide) ?_
    refine AW.tl zv ?_
    refine a_iload q234_1664 rfl ?_
    refine a_if_eq (tgt := 1673) q234_1666 (by decide) (fun zc1666 => absurd zc1666 (by decide)) (fun zc1666 => ?_)
    refine a_lconst (v := 1) q234_1669 (by decide) ?_
    refine a_goto (tgt := 1674) q234_1670 (by decide) ?_
    refine a_lcmp q234_1674 ?_
    refine a_if_eq (tgt := 1680) q234_1675 (by decide) (fun zc1675 => ?_) (fun zc1675 => absurd ((lg_cmp_eq _ _).mpr rfl) zc1675)
    refine a_goto (tgt := 2206) q234_1680 (by decide) ?_
    refine AW.pop_less (x := (7, _)) (lv' := [(0, _), (1, _), (2, _), (3, _), (4, _), (5, _), (6, _)]) ?_
    refine AW.pop_less (x := (6, _)) (lv' := [(0, _), (1, _), (2, _), (3, _), (4, _), (5, _)]) ?_
    exact AW.wide (bc' := bC) (bs' := bS) (show bC ≤ bC + 1 from Nat.le_succ bC) (show bS ≤ bS + 1 from Nat.le_succ bS) zk

theorem opB_pickMark {X : XS} {I : Nat → Int32} {A : Nat → Nat → Int32} {L : Nat → Nat → Int64} {O : Nat → UInt64} {Q : AO → AH → Prop} {ii bC bS : Nat} {ev : Int32} (hX : X.1 ≤ 3584) (hi : ii + 7 ≤ X.1)  (h1 : I 28 = 0 → ev = 1 ∧ AW X 234 2206 [(0, .ref 1003), (1, .ref 0), (2, .ref 21), (3, .ref 35), (4, .ref 36), (5, .int (nI ii))] [] (hp (va_up I 26 1) A L O) bC bS Q) (h0 : ¬ I 28 = 0 → ev = 0 ∧ L 35 0 = ((g_named (A 31 0))).toInt64 ∧ AW X 234 2206 [(0, .ref 1003), (1, .ref 0), (2, .ref 21), (3, .ref 35), (4, .ref 36), (5, .int (nI ii))] [] (hp (va_up I 26 0) A L O) bC bS Q) : AW X 234 1690 [(0, .ref 1003), (1, .ref 0), (2, .ref 21), (3, .ref 35), (4, .ref 36), (5, .int (nI ii)), (6, .int ev)] [] (hp I A L O) (bC + 1) (bS + 1) Q := by
  refine a_aload_n (i := 2) q234_1690 rfl rfl ?_
  refine a_cv0 q234_1691 rfl rfl ⟨rfl, rfl⟩ rfl ?_
  refine c_X10_pickMark  (h1 := fun y0 => ?_) (h0 := fun y0 => ?_)
  · skip
    obtain ⟨ze, zk⟩ := h1 y0
    subst ze
    refine ck_r ?_
    refine a_istore (i := 7) (lv' := [(0, _), (1, _), (2, _), (3, _), (4, _), (5, _), (6, _), (7, _)]) q234_1694 rfl rfl ?_
    refine a_aload_n (i := 2) q234_1696 rfl rfl ?_
    refine a_cv0 q234_1697 rfl rfl ⟨rfl, rfl⟩ rfl ?_
    refine c_X10_thrown ?_
    refine ck_r ?_
    refine AW.ti (show _ = (1 : Int32) from rfl) ?_
    refine a_iload q234_1700 rfl ?_
    refine a_icmp_eq (tgt := 1707) q234_1702 (by decide) (fun zc1702 => ?_) (fun zc1702 => absurd (rfl) zc1702)
    refine a_iload q234_1707 rfl ?_
    refine a_if_ne (tgt := 1724) q234_1709 (by decide) (fun zc1709 => ?_) (fun zc1709 => absurd zc1709 (by decide))
    refine a_goto (tgt := 2206) q234_1724 (by decide) ?_
    refine AW.pop_less (x := (7, _)) (lv' := [(0, _), (1, _), (2, _), (3, _), (4, _), (5, _), (6, _)]) ?_
    refine AW.pop_less (x := (6, _)) (lv' := [(0, _), (1, _), (2, _), (3, _), (4, _), (5, _)]) ?_
    exact AW.wide (bc' := bC) (bs' := bS) (show bC ≤ bC + 1 from Nat.le_succ bC) (show bS ≤ bS + 1 from Nat.le_succ bS) zk
  · skip
    obtain ⟨ze, zv, zk⟩ := h0 y0
    subst ze
    refine ck_r ?_
    refine a_istore (i := 7) (lv' := [(0, _), (1, _), (2, _), (3, _), (4, _), (5, _), (6, _), (7, _)]) q234_1694 rfl rfl ?_
    refine a_aload_n (i := 2) q234_1696 rfl rfl ?_
    refine a_cv0 q234_1697 rfl rfl ⟨rfl, rfl⟩ rfl ?_
    refine c_X10_thrown ?_
    refine ck_r ?_
    refine AW.ti (show _ = (0 : Int32) from rfl) ?_
    refine a_iload q234_1700 rfl ?_
    refine a_icmp_eq (tgt := 1707) q234_1702 (by decide) (fun zc1702 => ?_) (fun zc1702 => absurd (rfl) zc1702)
    refine a_iload q234_1707 rfl ?_
    refine a_if_ne (tgt := 1724) q234_1709 (by decide) (fun zc1709 => absurd zc1709 (by decide)) (fun zc1709 => ?_)
    refine a_aload_n (i := 3) q234_1712 rfl rfl ?_
    refine a_iconst (v := 0) q234_1713 (by decide) ?_
    refine a_lald' (j := 0) q234_1714 rfl rfl (by decide) (by decide) ?_
    refine AW.tl zv ?_
    refine a_iload q234_1715 rfl ?_
    refine a_i2l q234_1717 ?_
    refine a_lcmp q234_1718 ?_
    refine a_if_eq (tgt := 1724) q234_1719 (by decide) (fun zc1719 => ?_) (fun zc1719 => absurd ((lg_cmp_eq _ _).mpr rfl) zc1719)
    refine a_goto (tgt := 2206) q234_1724 (by decide) ?_
    refine AW.pop_less (x := (7, _)) (lv' := [(0, _), (1, _), (2, _), (3, _), (4, _), (5, _), (6, _)]) ?_
    refine AW.pop_less (x := (6, _)) (lv' := [(0, _), (1, _), (2, _), (3, _), (4, _), (5, _)]) ?_
    exact AW.wide (bc' := bC) (bs' := bS) (show bC ≤ bC + 1 from Nat.le_succ bC) (show bS ≤ bS + 1 from Nat.le_succ bS) zk

theorem opB_pickAggregate {X : XS} {I : Nat → Int32} {A : Nat → Nat → Int32} {L : Nat → Nat → Int64} {O : Nat → UInt64} {Q : AO → AH → Prop} {ii bC bS : Nat} {ev : Int32} (hX : X.1 ≤ 3584) (hi : ii + 7 ≤ X.1)  (h1 : I 28 = 0 → ev = 1 ∧ AW X 234 2206 [(0, .ref 1003), (1, .ref 0), (2, .ref 21), (3, .ref 35), (4, .ref 36), (5, .int (nI ii))] [] (hp (va_up I 26 1) A L O) bC bS Q) (h0 : ¬ I 28 = 0 → ev = 0 ∧ L 35 0 = ((A 31 1)).toInt64 ∧ AW X 234 2206 [(0, .ref 1003), (1, .ref 0), (2, .ref 21), (3, .ref 35), (4, .ref 36), (5, .int (nI ii))] [] (hp (va_up I 26 0) A L O) bC bS Q) : AW X 234 1734 [(0, .ref 1003), (1, .ref 0), (2, .ref 21), (3, .ref 35), (4, .ref 36), (5, .int (nI ii)), (6, .int ev)] [] (hp I A L O) (bC + 1) (bS + 1) Q := by
  refine a_aload_n (i := 2) q234_1734 rfl rfl ?_
  refine a_cv0 q234_1735 rfl rfl ⟨rfl, rfl⟩ rfl ?_
  refine c_X10_pickAggregate  (h1 := fun y0 => ?_) (h0 := fun y0 => ?_)
  · skip
    obtain ⟨ze, zk⟩ := h1 y0
    subst ze
    refine ck_r ?_
    refine a_istore (i := 7) (lv' := [(0, _), (1, _), (2, _), (3, _), (4, _), (5, _), (6, _), (7, _)]) q234_1738 rfl rfl ?_
    refine a_aload_n (i := 2) q234_1740 rfl rfl ?_
    refine a_cv0 q234_1741 rfl rfl ⟨rfl, rfl⟩ rfl ?_
    refine c_X10_thrown ?_
    refine ck_r ?_
    refine AW.ti (show _ = (1 : Int32) from rfl) ?_
    refine a_iload q234_1744 rfl ?_
    refine a_icmp_eq (tgt := 1751) q234_1746 (by decide) (fun zc1746 => ?_) (fun zc1746 => absurd (rfl) zc1746)
    refine a_iload q234_1751 rfl ?_
    refine a_if_ne (tgt := 1768) q234_1753 (by decide) (fun zc1753 => ?_) (fun zc1753 => absurd zc1753 (by decide))
    refine a_goto (tgt := 2206) q234_1768 (by decide) ?_
    refine AW.pop_less (x := (7, _)) (lv' := [(0, _), (1, _), (2, _), (3, _), (4, _), (5, _), (6, _)]) ?_
    refine AW.pop_less (x := (6, _)) (lv' := [(0, _), (1, _), (2, _), (3, _), (4, _), (5, _)]) ?_
    exact AW.wide (bc' := bC) (bs' := bS) (show bC ≤ bC + 1 from Nat.le_succ bC) (show bS ≤ bS + 1 from Nat.le_succ bS) zk
  · skip
    obtain ⟨ze, zv, zk⟩ := h0 y0
    subst ze
    refine ck_r ?_
    refine a_istore (i := 7) (lv' := [(0, _), (1, _), (2, _), (3, _), (4, _), (5, _), (6, _), (7, _)]) q234_1738 rfl rfl ?_
    refine a_aload_n (i := 2) q234_1740 rfl rfl ?_
    refine a_cv0 q234_1741 rfl rfl ⟨rfl, rfl⟩ rfl ?_
    refine c_X10_thrown ?_
    refine ck_r ?_
    refine AW.ti (show _ = (0 : Int32) from rfl) ?_
    refine a_iload q234_1744 rfl ?_
    refine a_icmp_eq (tgt := 1751) q234_1746 (by decide) (fun zc1746 => ?_) (fun zc1746 => absurd (rfl) zc1746)
    refine a_iload q234_1751 rfl ?_
    refine a_if_ne (tgt := 1768) q234_1753 (by decide) (fun zc1753 => absurd zc1753 (by decide)) (fun zc1753 => ?_)
    refine a_aload_n (i := 3) q234_1756 rfl rfl ?_
    refine a_iconst (v := 0) q234_1757 (by decide) ?_
    refine a_lald' (j := 0) q234_1758 rfl rfl (by decide) (by decide) ?_
    refine AW.tl zv ?_
    refine a_iload q234_1759 rfl ?_
    refine a_i2l q234_1761 ?_
    refine a_lcmp q234_1762 ?_
    refine a_if_eq (tgt := 1768) q234_1763 (by decide) (fun zc1763 => ?_) (fun zc1763 => absurd ((lg_cmp_eq _ _).mpr rfl) zc1763)
    refine a_goto (tgt := 2206) q234_1768 (by decide) ?_
    refine AW.pop_less (x := (7, _)) (lv' := [(0, _), (1, _), (2, _), (3, _), (4, _), (5, _), (6, _)]) ?_
    refine AW.pop_less (x := (6, _)) (lv' := [(0, _), (1, _), (2, _), (3, _), (4, _), (5, _)]) ?_
    exact AW.wide (bc' := bC) (bs' := bS) (show bC ≤ bC + 1 from Nat.le_succ bC) (show bS ≤ bS + 1 from Nat.le_succ bS) zk

theorem opB_pickColumn {X : XS} {I : Nat → Int32} {A : Nat → Nat → Int32} {L : Nat → Nat → Int64} {O : Nat → UInt64} {Q : AO → AH → Prop} {ii bC bS : Nat} {ev : Int32} (hX : X.1 ≤ 3584) (hi : ii + 7 ≤ X.1)  (h1 : ¬ isChan (X.2 (ii + 1)) → ev = 1 ∧ AW X 234 2206 [(0, .ref 1003), (1, .ref 0), (2, .ref 21), (3, .ref 35), (4, .ref 36), (5, .int (nI ii))] [] (hp (va_up I 26 1) A L O) bC bS Q) (h2 : isChan (X.2 (ii + 1)) → I 28 = 0 → ev = 2 ∧ AW X 234 2206 [(0, .ref 1003), (1, .ref 0), (2, .ref 21), (3, .ref 35), (4, .ref 36), (5, .int (nI ii))] [] (hp (va_up I 26 2) A L O) bC bS Q) (h0 : ∀ i, i < 4 → (X.2 (ii + 1)) = nI i → ¬ I 28 = 0 → ev = 0 ∧ L 35 0 = ((A 31 (2 + i))).toInt64 ∧ AW X 234 2206 [(0, .ref 1003), (1, .ref 0), (2, .ref 21), (3, .ref 35), (4, .ref 36), (5, .int (nI ii))] [] (hp (va_up I 26 0) A L O) bC bS Q) : AW X 234 1784 [(0, .ref 1003), (1, .ref 0), (2, .ref 21), (3, .ref 35), (4, .ref 36), (5, .int (nI ii)), (6, .int ev)] [] (hp I A L O) (bC + 1) (bS + 1) Q := by
  refine a_aload_n (i := 2) q234_1784 rfl rfl ?_
  refine a_aload_n (i := 0) q234_1785 rfl rfl ?_
  refine a_iload q234_1786 rfl ?_
  refine a_iconst (v := 1) q234_1788 (by decide) ?_
  refine a_iadd q234_1789 ?_
  refine a_scr (k := ii + 1) q234_1790 (nI_add ii 1) (by omega) hX ?_
  refine a_cv1 q234_1791 rfl rfl ⟨rfl, rfl⟩ rfl ?_
  refine c_X10_pickColumn  (h1 := fun y0 => ?_) (h2 := fun y0 y1 => ?_) (h0 := fun i y1 y2 y3 => ?_)
  · skip
    obtain ⟨ze, zk⟩ := h1 y0
    subst ze
    refine ck_r ?_
    refine a_istore (i := 7) (lv' := [(0, _), (1, _), (2, _), (3, _), (4, _), (5, _), (6, _), (7, _)]) q234_1794 rfl rfl ?_
    refine a_aload_n (i := 2) q234_1796 rfl rfl ?_
    refine a_cv0 q234_1797 rfl rfl ⟨rfl, rfl⟩ rfl ?_
    refine c_X10_thrown ?_
    refine ck_r ?_
    refine AW.ti (show _ = (1 : Int32) from rfl) ?_
    refine a_iload q234_1800 rfl ?_
    refine a_icmp_eq (tgt := 1807) q234_1802 (by decide) (fun zc1802 => ?_) (fun zc1802 => absurd (rfl) zc1802)
    refine a_iload q234_1807 rfl ?_
    refine a_if_ne (tgt := 1824) q234_1809 (by decide) (fun zc1809 => ?_) (fun zc1809 => absurd zc1809 (by decide))
    refine a_goto (tgt := 2206) q234_1824 (by decide) ?_
    refine AW.pop_less (x := (7, _)) (lv' := [(0, _), (1, _), (2, _), (3, _), (4, _), (5, _), (6, _)]) ?_
    refine AW.pop_less (x := (6, _)) (lv' := [(0, _), (1, _), (2, _), (3, _), (4, _), (5, _)]) ?_
    exact AW.wide (bc' := bC) (bs' := bS) (show bC ≤ bC + 1 from Nat.le_succ bC) (show bS ≤ bS + 1 from Nat.le_succ bS) zk
  · skip
    obtain ⟨ze, zk⟩ := h2 y0 y1
    subst ze
    refine ck_r ?_
    refine a_istore (i := 7) (lv' := [(0, _), (1, _), (2, _), (3, _), (4, _), (5, _), (6, _), (7, _)]) q234_1794 rfl rfl ?_
    refine a_aload_n (i := 2) q234_1796 rfl rfl ?_
    refine a_cv0 q234_1797 rfl rfl ⟨rfl, rfl⟩ rfl ?_
    refine c_X10_thrown ?_
    refine ck_r ?_
    refine AW.ti (show _ = (2 : Int32) from rfl) ?_
    refine a_iload q234_1800 rfl ?_
    refine a_icmp_eq (tgt := 1807) q234_1802 (by decide) (fun zc1802 => ?_) (fun zc1802 => absurd (rfl) zc1802)
    refine a_iload q234_1807 rfl ?_
    refine a_if_ne (tgt := 1824) q234_1809 (by decide) (fun zc1809 => ?_) (fun zc1809 => absurd zc1809 (by decide))
    refine a_goto (tgt := 2206) q234_1824 (by decide) ?_
    refine AW.pop_less (x := (7, _)) (lv' := [(0, _), (1, _), (2, _), (3, _), (4, _), (5, _), (6, _)]) ?_
    refine AW.pop_less (x := (6, _)) (lv' := [(0, _), (1, _), (2, _), (3, _), (4, _), (5, _)]) ?_
    exact AW.wide (bc' := bC) (bs' := bS) (show bC ≤ bC + 1 from Nat.le_succ bC) (show bS ≤ bS + 1 from Nat.le_succ bS) zk
  · skip
    obtain ⟨ze, zv, zk⟩ := h0 i y1 y2 y3
    subst ze
    refine ck_r ?_
    refine a_istore (i := 7) (lv' := [(0, _), (1, _), (2, _), (3, _), (4, _), (5, _), (6, _), (7, _)]) q234_1794 rfl rfl ?_
    refine a_aload_n (i := 2) q234_1796 rfl rfl ?_
    refine a_cv0 q234_1797 rfl rfl ⟨rfl, rfl⟩ rfl ?_
    refine c_X10_thrown ?_
    refine ck_r ?_
    refine AW.ti (show _ = (0 : Int32) from rfl) ?_
    refine a_iload q234_1800 rfl ?_
    refine a_icmp_eq (tgt := 1807) q234_1802 (by decide) (fun zc1802 => ?_) (fun zc1802 => absurd (rfl) zc1802)
    refine a_iload q234_1807 rfl ?_
    refine a_if_ne (tgt := 1824) q234_1809 (by decide) (fun zc1809 => absurd zc1809 (by decide)) (fun zc1809 => ?_)
    refine a_aload_n (i := 3) q234_1812 rfl rfl ?_
    refine a_iconst (v := 0) q234_1813 (by decide) ?_
    refine a_lald' (j := 0) q234_1814 rfl rfl (by decide) (by decide) ?_
    refine AW.tl zv ?_
    refine a_iload q234_1815 rfl ?_
    refine a_i2l q234_1817 ?_
    refine a_lcmp q234_1818 ?_
    refine a_if_eq (tgt := 1824) q234_1819 (by decide) (fun zc1819 => ?_) (fun zc1819 => absurd ((lg_cmp_eq _ _).mpr rfl) zc1819)
    refine a_goto (tgt := 2206) q234_1824 (by decide) ?_
    refine AW.pop_less (x := (7, _)) (lv' := [(0, _), (1, _), (2, _), (3, _), (4, _), (5, _), (6, _)]) ?_
    refine AW.pop_less (x := (6, _)) (lv' := [(0, _), (1, _), (2, _), (3, _), (4, _), (5, _)]) ?_
    exact AW.wide (bc' := bC) (bs' := bS) (show bC ≤ bC + 1 from Nat.le_succ bC) (show bS ≤ bS + 1 from Nat.le_succ bS) zk

theorem opB_formerPicks {X : XS} {I : Nat → Int32} {A : Nat → Nat → Int32} {L : Nat → Nat → Int64} {O : Nat → UInt64} {Q : AO → AH → Prop} {ii bC bS : Nat} {ev : Int32} (hX : X.1 ≤ 3584) (hi : ii + 7 ≤ X.1)  (hq : ev = (I 21) ∧ AW X 234 2206 [(0, .ref 1003), (1, .ref 0), (2, .ref 21), (3, .ref 35), (4, .ref 36), (5, .int (nI ii))] [] (hp (va_up I 26 0) A L O) bC bS Q) : AW X 234 1831 [(0, .ref 1003), (1, .ref 0), (2, .ref 21), (3, .ref 35), (4, .ref 36), (5, .int (nI ii))] [.int ev] (hp I A L O) (bC + 1) (bS + 1) Q := by
  refine a_aload_n (i := 2) q234_1831 rfl rfl ?_
  refine a_cv0 q234_1832 rfl rfl ⟨rfl, rfl⟩ rfl ?_
  refine c_X10_formerPicks  (hq := ?_)
  · skip
    obtain ⟨ze, zk⟩ := hq
    subst ze
    refine ck_r ?_
    refine a_icmp_eq (tgt := 2206) q234_1835 (by decide) (fun zc1835 => ?_) (fun zc1835 => absurd (rfl) zc1835)
    
    exact AW.wide (bc' := bC) (bs' := bS) (show bC ≤ bC + 1 from Nat.le_succ bC) (show bS ≤ bS + 1 from Nat.le_succ bS) zk

theorem opB_unpick {X : XS} {I : Nat → Int32} {A : Nat → Nat → Int32} {L : Nat → Nat → Int64} {O : Nat → UInt64} {Q : AO → AH → Prop} {ii bC bS : Nat} {ev : Int32} (hX : X.1 ≤ 3584) (hi : ii + 7 ≤ X.1) {q : Nat} (hn : I 21 = nI q) (hq4 : q ≤ 4) (h1 : q = 0 → ev = 1 ∧ AW X 234 2206 [(0, .ref 1003), (1, .ref 0), (2, .ref 21), (3, .ref 35), (4, .ref 36), (5, .int (nI ii))] [] (hp (va_up I 26 1) A L O) bC bS Q) (h0 : ∀ j, q = j + 1 → ev = 0 ∧ L 35 0 = ((nI j)).toInt64 ∧ AW X 234 2206 [(0, .ref 1003), (1, .ref 0), (2, .ref 21), (3, .ref 35), (4, .ref 36), (5, .int (nI ii))] [] (hp (va_up (va_up I 26 0) 21 (nI j)) (va_up (va_up A 31 (stc (A 31) 0 (A 34) 6)) 34 (mDrp (A 34) 0 (6 * j))) L O) bC bS Q) : AW X 234 1847 [(0, .ref 1003), (1, .ref 0), (2, .ref 21), (3, .ref 35), (4, .ref 36), (5, .int (nI ii)), (6, .int ev)] [] (hp I A L O) (bC + 1) (bS + 1) Q := by
  refine a_aload_n (i := 2) q234_1847 rfl rfl ?_
  refine a_cv0 q234_1848 rfl rfl ⟨rfl, rfl⟩ rfl ?_
  refine c_X10_unpick (hn := hn) (hq4 := hq4) (h1 := fun y0 => ?_) (h0 := fun j y1 => ?_)
  · skip
    obtain ⟨ze, zk⟩ := h1 y0
    subst ze
    refine ck_r ?_
    refine a_istore (i := 7) (lv' := [(0, _), (1, _), (2, _), (3, _), (4, _), (5, _), (6, _), (7, _)]) q234_1851 rfl rfl ?_
    refine a_aload_n (i := 2) q234_1853 rfl rfl ?_
    refine a_cv0 q234_1854 rfl rfl ⟨rfl, rfl⟩ rfl ?_
    refine c_X10_thrown ?_
    refine ck_r ?_
    refine AW.ti (show _ = (1 : Int32) from rfl) ?_
    refine a_iload q234_1857 rfl ?_
    refine a_icmp_eq (tgt := 1864) q234_1859 (by decide) (fun zc1859 => ?_) (fun zc1859 => absurd (rfl) zc1859)
    refine a_iload q234_1864 rfl ?_
    refine a_if_ne (tgt := 1881) q234_1866 (by decide) (fun zc1866 => ?_) (fun zc1866 => absurd zc1866 (by decide))
    refine a_goto (tgt := 2206) q234_1881 (by decide) ?_
    refine AW.pop_less (x := (7, _)) (lv' := [(0, _), (1, _), (2, _), (3, _), (4, _), (5, _), (6, _)]) ?_
    refine AW.pop_less (x := (6, _)) (lv' := [(0, _), (1, _), (2, _), (3, _), (4, _), (5, _)]) ?_
    exact AW.wide (bc' := bC) (bs' := bS) (show bC ≤ bC + 1 from Nat.le_succ bC) (show bS ≤ bS + 1 from Nat.le_succ bS) zk
  · skip
    obtain ⟨ze, zv, zk⟩ := h0 j y1
    subst ze
    refine ck_r ?_
    refine a_istore (i := 7) (lv' := [(0, _), (1, _), (2, _), (3, _), (4, _), (5, _), (6, _), (7, _)]) q234_1851 rfl rfl ?_
    refine a_aload_n (i := 2) q234_1853 rfl rfl ?_
    refine a_cv0 q234_1854 rfl rfl ⟨rfl, rfl⟩ rfl ?_
    refine c_X10_thrown ?_
    refine ck_r ?_
    refine AW.ti (show _ = (0 : Int32) from rfl) ?_
    refine a_iload q234_1857 rfl ?_
    refine a_icmp_eq (tgt := 1864) q234_1859 (by decide) (fun zc1859 => ?_) (fun zc1859 => absurd (rfl) zc1859)
    refine a_iload q234_1864 rfl ?_
    refine a_if_ne (tgt := 1881) q234_1866 (by decide) (fun zc1866 => absurd zc1866 (by decide)) (fun zc1866 => ?_)
    refine a_aload_n (i := 3) q234_1869 rfl rfl ?_
    refine a_iconst (v := 0) q234_1870 (by decide) ?_
    refine a_lald' (j := 0) q234_1871 rfl rfl (by decide) (by decide) ?_
    refine AW.tl zv ?_
    refine a_iload q234_1872 rfl ?_
    refine a_i2l q234_1874 ?_
    refine a_lcmp q234_1875 ?_
    refine a_if_eq (tgt := 1881) q234_1876 (by decide) (fun zc1876 => ?_) (fun zc1876 => absurd ((lg_cmp_eq _ _).mpr rfl) zc1876)
    refine a_goto (tgt := 2206) q234_1881 (by decide) ?_
    refine AW.pop_less (x := (7, _)) (lv' := [(0, _), (1, _), (2, _), (3, _), (4, _), (5, _), (6, _)]) ?_
    refine AW.pop_less (x := (6, _)) (lv' := [(0, _), (1, _), (2, _), (3, _), (4, _), (5, _)]) ?_
    exact AW.wide (bc' := bC) (bs' := bS) (show bC ≤ bC + 1 from Nat.le_succ bC) (show bS ≤ bS + 1 from Nat.le_succ bS) zk

theorem opB_forget {X : XS} {I : Nat → Int32} {A : Nat → Nat → Int32} {L : Nat → Nat → Int64} {O : Nat → UInt64} {Q : AO → AH → Prop} {ii bC bS : Nat} {ev : Int32} (hX : X.1 ≤ 3584) (hi : ii + 7 ≤ X.1) {n : Nat} (hn : I 20 = nI n) (hn40 : n ≤ 40) {q : Nat} (hf : I 21 = nI q) (hq4 : q ≤ 4) (hv : ∀ i, i < q → vrow (A 34) i) {S : FS} (he : mFg (m_fb (I 27) (kndA A n 6)) q ((kndA A n 6) 34, q, 0, (kndA A n 6) 29) = S) (hq : ev = (nI S.2.2.1) ∧ AW X 234 2206 [(0, .ref 1003), (1, .ref 0), (2, .ref 21), (3, .ref 35), (4, .ref 36), (5, .int (nI ii))] [] (hp (va_up (va_up I 26 0) 21 (nI S.2.1)) (va_up (va_up (kndA A n 6) 29 S.2.2.2) 34 S.1) L O) bC bS Q) : AW X 234 1888 [(0, .ref 1003), (1, .ref 0), (2, .ref 21), (3, .ref 35), (4, .ref 36), (5, .int (nI ii))] [.int ev] (hp I A L O) (bC + 1) (bS + 1) Q := by
  refine a_aload_n (i := 2) q234_1888 rfl rfl ?_
  refine a_cv0 q234_1889 rfl rfl ⟨rfl, rfl⟩ rfl ?_
  refine c_X10_forget (hn := hn) (hn40 := hn40) (hf := hf) (hq4 := hq4) (hv := hv) (he := he) (hq := ?_)
  · skip
    obtain ⟨ze, zk⟩ := hq
    subst ze
    refine ck_r ?_
    refine a_icmp_eq (tgt := 2206) q234_1892 (by decide) (fun zc1892 => ?_) (fun zc1892 => absurd (rfl) zc1892)
    
    exact AW.wide (bc' := bC) (bs' := bS) (show bC ≤ bC + 1 from Nat.le_succ bC) (show bS ≤ bS + 1 from Nat.le_succ bS) zk

theorem opB_draftMark {X : XS} {I : Nat → Int32} {A : Nat → Nat → Int32} {L : Nat → Nat → Int64} {O : Nat → UInt64} {Q : AO → AH → Prop} {ii bC bS : Nat} {ev : Int32} (hX : X.1 ≤ 3584) (hi : ii + 7 ≤ X.1)  (h1 : ¬ isMk (((X.2 (ii + 1)).toUInt32 % 65536).toInt32) → ev = 1 ∧ AW X 234 2206 [(0, .ref 1003), (1, .ref 0), (2, .ref 21), (3, .ref 35), (4, .ref 36), (5, .int (nI ii))] [] (hp (va_up I 26 1) A L O) bC bS Q) (h0 : isMk (((X.2 (ii + 1)).toUInt32 % 65536).toInt32) → ev = 0 ∧ L 35 0 = ((g_named (A 30 0))).toInt64 ∧ AW X 234 2206 [(0, .ref 1003), (1, .ref 0), (2, .ref 21), (3, .ref 35), (4, .ref 36), (5, .int (nI ii))] [] (hp (va_up (va_up I 26 0) 29 0) (va_up A 30 (upd (A 30) 0 (mk_of (((X.2 (ii + 1)).toUInt32 % 65536).toInt32)))) L O) bC bS Q) : AW X 234 1911 [(0, .ref 1003), (1, .ref 0), (2, .ref 21), (3, .ref 35), (4, .ref 36), (5, .int (nI ii)), (6, .int ev)] [] (hp I A L O) (bC + 1) (bS + 1) Q := by
  refine a_aload_n (i := 2) q234_1911 rfl rfl ?_
  refine a_aload_n (i := 0) q234_1912 rfl rfl ?_
  refine a_iload q234_1913 rfl ?_
  refine a_iconst (v := 1) q234_1915 (by decide) ?_
  refine a_iadd q234_1916 ?_
  refine a_scr (k := ii + 1) q234_1917 (nI_add ii 1) (by omega) hX ?_
  refine a_i2c q234_1918 ?_
  refine a_cv1 q234_1919 rfl rfl ⟨rfl, rfl⟩ rfl ?_
  refine c_X10_draftMark  (h1 := fun y0 => ?_) (h0 := fun y0 => ?_)
  · skip
    obtain ⟨ze, zk⟩ := h1 y0
    subst ze
    refine ck_r ?_
    refine a_istore (i := 7) (lv' := [(0, _), (1, _), (2, _), (3, _), (4, _), (5, _), (6, _), (7, _)]) q234_1922 rfl rfl ?_
    refine a_aload_n (i := 2) q234_1924 rfl rfl ?_
    refine a_cv0 q234_1925 rfl rfl ⟨rfl, rfl⟩ rfl ?_
    refine c_X10_thrown ?_
    refine ck_r ?_
    refine AW.ti (show _ = (1 : Int32) from rfl) ?_
    refine a_iload q234_1928 rfl ?_
    refine a_icmp_eq (tgt := 1935) q234_1930 (by decide) (fun zc1930 => ?_) (fun zc1930 => absurd (rfl) zc1930)
    refine a_iload q234_1935 rfl ?_
    refine a_if_ne (tgt := 1952) q234_1937 (by decide) (fun zc1937 => ?_) (fun zc1937 => absurd zc1937 (by decide))
    refine a_goto (tgt := 2206) q234_1952 (by decide) ?_
    refine AW.pop_less (x := (7, _)) (lv' := [(0, _), (1, _), (2, _), (3, _), (4, _), (5, _), (6, _)]) ?_
    refine AW.pop_less (x := (6, _)) (lv' := [(0, _), (1, _), (2, _), (3, _), (4, _), (5, _)]) ?_
    exact AW.wide (bc' := bC) (bs' := bS) (show bC ≤ bC + 1 from Nat.le_succ bC) (show bS ≤ bS + 1 from Nat.le_succ bS) zk
  · skip
    obtain ⟨ze, zv, zk⟩ := h0 y0
    subst ze
    refine ck_r ?_
    refine a_istore (i := 7) (lv' := [(0, _), (1, _), (2, _), (3, _), (4, _), (5, _), (6, _), (7, _)]) q234_1922 rfl rfl ?_
    refine a_aload_n (i := 2) q234_1924 rfl rfl ?_
    refine a_cv0 q234_1925 rfl rfl ⟨rfl, rfl⟩ rfl ?_
    refine c_X10_thrown ?_
    refine ck_r ?_
    refine AW.ti (show _ = (0 : Int32) from rfl) ?_
    refine a_iload q234_1928 rfl ?_
    refine a_icmp_eq (tgt := 1935) q234_1930 (by decide) (fun zc1930 => ?_) (fun zc1930 => absurd (rfl) zc1930)
    refine a_iload q234_1935 rfl ?_
    refine a_if_ne (tgt := 1952) q234_1937 (by decide) (fun zc1937 => absurd zc1937 (by decide)) (fun zc1937 => ?_)
    refine a_aload_n (i := 3) q234_1940 rfl rfl ?_
    refine a_iconst (v := 0) q234_1941 (by decide) ?_
    refine a_lald' (j := 0) q234_1942 rfl rfl (by decide) (by decide) ?_
    refine AW.tl zv ?_
    refine a_iload q234_1943 rfl ?_
    refine a_i2l q234_1945 ?_
    refine a_lcmp q234_1946 ?_
    refine a_if_eq (tgt := 1952) q234_1947 (by decide) (fun zc1947 => ?_) (fun zc1947 => absurd ((lg_cmp_eq _ _).mpr rfl) zc1947)
    refine a_goto (tgt := 2206) q234_1952 (by decide) ?_
    refine AW.pop_less (x := (7, _)) (lv' := [(0, _), (1, _), (2, _), (3, _), (4, _), (5, _), (6, _)]) ?_
    refine AW.pop_less (x := (6, _)) (lv' := [(0, _), (1, _), (2, _), (3, _), (4, _), (5, _)]) ?_
    exact AW.wide (bc' := bC) (bs' := bS) (show bC ≤ bC + 1 from Nat.le_succ bC) (show bS ≤ bS + 1 from Nat.le_succ bS) zk

theorem opB_draftAggregate {X : XS} {I : Nat → Int32} {A : Nat → Nat → Int32} {L : Nat → Nat → Int64} {O : Nat → UInt64} {Q : AO → AH → Prop} {ii bC bS : Nat} {ev : Int32} (hX : X.1 ≤ 3584) (hi : ii + 7 ≤ X.1)  (h1 : ¬ ((X.2 (ii + 1)) = 0 ∨ (X.2 (ii + 1)) = 1 ∨ (X.2 (ii + 1)) = 2) → ev = 1 ∧ AW X 234 2206 [(0, .ref 1003), (1, .ref 0), (2, .ref 21), (3, .ref 35), (4, .ref 36), (5, .int (nI ii))] [] (hp (va_up I 26 1) A L O) bC bS Q) (h0 : ((X.2 (ii + 1)) = 0 ∨ (X.2 (ii + 1)) = 1 ∨ (X.2 (ii + 1)) = 2) → ev = 0 ∧ L 35 0 = ((A 30 1)).toInt64 ∧ AW X 234 2206 [(0, .ref 1003), (1, .ref 0), (2, .ref 21), (3, .ref 35), (4, .ref 36), (5, .int (nI ii))] [] (hp (va_up (va_up I 26 0) 29 0) (va_up A 30 (upd (A 30) 1 (X.2 (ii + 1)))) L O) bC bS Q) : AW X 234 1968 [(0, .ref 1003), (1, .ref 0), (2, .ref 21), (3, .ref 35), (4, .ref 36), (5, .int (nI ii)), (6, .int ev)] [] (hp I A L O) (bC + 1) (bS + 1) Q := by
  refine a_aload_n (i := 2) q234_1968 rfl rfl ?_
  refine a_aload_n (i := 0) q234_1969 rfl rfl ?_
  refine a_iload q234_1970 rfl ?_
  refine a_iconst (v := 1) q234_1972 (by decide) ?_
  refine a_iadd q234_1973 ?_
  refine a_scr (k := ii + 1) q234_1974 (nI_add ii 1) (by omega) hX ?_
  refine a_cv1 q234_1975 rfl rfl ⟨rfl, rfl⟩ rfl ?_
  refine c_X10_draftAggregate  (h1 := fun y0 => ?_) (h0 := fun y0 => ?_)
  · skip
    obtain ⟨ze, zk⟩ := h1 y0
    subst ze
    refine ck_r ?_
    refine a_istore (i := 7) (lv' := [(0, _), (1, _), (2, _), (3, _), (4, _), (5, _), (6, _), (7, _)]) q234_1978 rfl rfl ?_
    refine a_aload_n (i := 2) q234_1980 rfl rfl ?_
    refine a_cv0 q234_1981 rfl rfl ⟨rfl, rfl⟩ rfl ?_
    refine c_X10_thrown ?_
    refine ck_r ?_
    refine AW.ti (show _ = (1 : Int32) from rfl) ?_
    refine a_iload q234_1984 rfl ?_
    refine a_icmp_eq (tgt := 1991) q234_1986 (by decide) (fun zc1986 => ?_) (fun zc1986 => absurd (rfl) zc1986)
    refine a_iload q234_1991 rfl ?_
    refine a_if_ne (tgt := 2008) q234_1993 (by decide) (fun zc1993 => ?_) (fun zc1993 => absurd zc1993 (by decide))
    refine a_goto (tgt := 2206) q234_2008 (by decide) ?_
    refine AW.pop_less (x := (7, _)) (lv' := [(0, _), (1, _), (2, _), (3, _), (4, _), (5, _), (6, _)]) ?_
    refine AW.pop_less (x := (6, _)) (lv' := [(0, _), (1, _), (2, _), (3, _), (4, _), (5, _)]) ?_
    exact AW.wide (bc' := bC) (bs' := bS) (show bC ≤ bC + 1 from Nat.le_succ bC) (show bS ≤ bS + 1 from Nat.le_succ bS) zk
  · skip
    obtain ⟨ze, zv, zk⟩ := h0 y0
    subst ze
    refine ck_r ?_
    refine a_istore (i := 7) (lv' := [(0, _), (1, _), (2, _), (3, _), (4, _), (5, _), (6, _), (7, _)]) q234_1978 rfl rfl ?_
    refine a_aload_n (i := 2) q234_1980 rfl rfl ?_
    refine a_cv0 q234_1981 rfl rfl ⟨rfl, rfl⟩ rfl ?_
    refine c_X10_thrown ?_
    refine ck_r ?_
    refine AW.ti (show _ = (0 : Int32) from rfl) ?_
    refine a_iload q234_1984 rfl ?_
    refine a_icmp_eq (tgt := 1991) q234_1986 (by decide) (fun zc1986 => ?_) (fun zc1986 => absurd (rfl) zc1986)
    refine a_iload q234_1991 rfl ?_
    refine a_if_ne (tgt := 2008) q234_1993 (by decide) (fun zc1993 => absurd zc1993 (by decide)) (fun zc1993 => ?_)
    refine a_aload_n (i := 3) q234_1996 rfl rfl ?_
    refine a_iconst (v := 0) q234_1997 (by decide) ?_
    refine a_lald' (j := 0) q234_1998 rfl rfl (by decide) (by decide) ?_
    refine AW.tl zv ?_
    refine a_iload q234_1999 rfl ?_
    refine a_i2l q234_2001 ?_
    refine a_lcmp q234_2002 ?_
    refine a_if_eq (tgt := 2008) q234_2003 (by decide) (fun zc2003 => ?_) (fun zc2003 => absurd ((lg_cmp_eq _ _).mpr rfl) zc2003)
    refine a_goto (tgt := 2206) q234_2008 (by decide) ?_
    refine AW.pop_less (x := (7, _)) (lv' := [(0, _), (1, _), (2, _), (3, _), (4, _), (5, _), (6, _)]) ?_
    refine AW.pop_less (x := (6, _)) (lv' := [(0, _), (1, _), (2, _), (3, _), (4, _), (5, _)]) ?_
    exact AW.wide (bc' := bC) (bs' := bS) (show bC ≤ bC + 1 from Nat.le_succ bC) (show bS ≤ bS + 1 from Nat.le_succ bS) zk

theorem opB_draftColumn {X : XS} {I : Nat → Int32} {A : Nat → Nat → Int32} {L : Nat → Nat → Int64} {O : Nat → UInt64} {Q : AO → AH → Prop} {ii bC bS : Nat} {ev : Int32} (hX : X.1 ≤ 3584) (hi : ii + 7 ≤ X.1)  (h1 : ¬ (isChan (X.2 (ii + 1)) ∧ ((X.2 (ii + 2)) = -1 ∨ isCol (X.2 (ii + 2)))) → ev = 1 ∧ AW X 234 2206 [(0, .ref 1003), (1, .ref 0), (2, .ref 21), (3, .ref 35), (4, .ref 36), (5, .int (nI ii))] [] (hp (va_up I 26 1) A L O) bC bS Q) (h2 : ∀ i, i < 4 → (X.2 (ii + 1)) = nI i → ((X.2 (ii + 2)) = -1 ∨ isCol (X.2 (ii + 2))) → m_els A i (X.2 (ii + 2)) → ev = 2 ∧ AW X 234 2206 [(0, .ref 1003), (1, .ref 0), (2, .ref 21), (3, .ref 35), (4, .ref 36), (5, .int (nI ii))] [] (hp (va_up I 26 2) A L O) bC bS Q) (h0 : ∀ i, i < 4 → (X.2 (ii + 1)) = nI i → ((X.2 (ii + 2)) = -1 ∨ isCol (X.2 (ii + 2))) → ¬ m_els A i (X.2 (ii + 2)) → ev = 0 ∧ L 35 0 = ((A 30 (2 + i))).toInt64 ∧ AW X 234 2206 [(0, .ref 1003), (1, .ref 0), (2, .ref 21), (3, .ref 35), (4, .ref 36), (5, .int (nI ii))] [] (hp (va_up (va_up I 26 0) 29 0) (va_up A 30 (upd (A 30) (2 + i) (X.2 (ii + 2)))) L O) bC bS Q) : AW X 234 2030 [(0, .ref 1003), (1, .ref 0), (2, .ref 21), (3, .ref 35), (4, .ref 36), (5, .int (nI ii)), (6, .int ev)] [] (hp I A L O) (bC + 1) (bS + 1) Q := by
  refine a_aload_n (i := 2) q234_2030 rfl rfl ?_
  refine a_aload_n (i := 0) q234_2031 rfl rfl ?_
  refine a_iload q234_2032 rfl ?_
  refine a_iconst (v := 1) q234_2034 (by decide) ?_
  refine a_iadd q234_2035 ?_
  refine a_scr (k := ii + 1) q234_2036 (nI_add ii 1) (by omega) hX ?_
  refine a_aload_n (i := 0) q234_2037 rfl rfl ?_
  refine a_iload q234_2038 rfl ?_
  refine a_iconst (v := 2) q234_2040 (by decide) ?_
  refine a_iadd q234_2041 ?_
  refine a_scr (k := ii + 2) q234_2042 (nI_add ii 2) (by omega) hX ?_
  refine a_cv2 q234_2043 rfl rfl ⟨rfl, rfl⟩ rfl ?_
  refine c_X10_draftColumn  (h1 := fun y0 => ?_) (h2 := fun i y1 y2 y3 y4 => ?_) (h0 := fun i y1 y2 y3 y4 => ?_)
  · skip
    obtain ⟨ze, zk⟩ := h1 y0
    subst ze
    refine ck_r ?_
    refine a_istore (i := 7) (lv' := [(0, _), (1, _), (2, _), (3, _), (4, _), (5, _), (6, _), (7, _)]) q234_2046 rfl rfl ?_
    refine a_aload_n (i := 2) q234_2048 rfl rfl ?_
    refine a_cv0 q234_2049 rfl rfl ⟨rfl, rfl⟩ rfl ?_
    refine c_X10_thrown ?_
    refine ck_r ?_
    refine AW.ti (show _ = (1 : Int32) from rfl) ?_
    refine a_iload q234_2052 rfl ?_
    refine a_icmp_eq (tgt := 2059) q234_2054 (by decide) (fun zc2054 => ?_) (fun zc2054 => absurd (rfl) zc2054)
    refine a_iload q234_2059 rfl ?_
    refine a_if_ne (tgt := 2076) q234_2061 (by decide) (fun zc2061 => ?_) (fun zc2061 => absurd zc2061 (by decide))
    refine a_goto (tgt := 2206) q234_2076 (by decide) ?_
    refine AW.pop_less (x := (7, _)) (lv' := [(0, _), (1, _), (2, _), (3, _), (4, _), (5, _), (6, _)]) ?_
    refine AW.pop_less (x := (6, _)) (lv' := [(0, _), (1, _), (2, _), (3, _), (4, _), (5, _)]) ?_
    exact AW.wide (bc' := bC) (bs' := bS) (show bC ≤ bC + 1 from Nat.le_succ bC) (show bS ≤ bS + 1 from Nat.le_succ bS) zk
  · skip
    obtain ⟨ze, zk⟩ := h2 i y1 y2 y3 y4
    subst ze
    refine ck_r ?_
    refine a_istore (i := 7) (lv' := [(0, _), (1, _), (2, _), (3, _), (4, _), (5, _), (6, _), (7, _)]) q234_2046 rfl rfl ?_
    refine a_aload_n (i := 2) q234_2048 rfl rfl ?_
    refine a_cv0 q234_2049 rfl rfl ⟨rfl, rfl⟩ rfl ?_
    refine c_X10_thrown ?_
    refine ck_r ?_
    refine AW.ti (show _ = (2 : Int32) from rfl) ?_
    refine a_iload q234_2052 rfl ?_
    refine a_icmp_eq (tgt := 2059) q234_2054 (by decide) (fun zc2054 => ?_) (fun zc2054 => absurd (rfl) zc2054)
    refine a_iload q234_2059 rfl ?_
    refine a_if_ne (tgt := 2076) q234_2061 (by decide) (fun zc2061 => ?_) (fun zc2061 => absurd zc2061 (by decide))
    refine a_goto (tgt := 2206) q234_2076 (by decide) ?_
    refine AW.pop_less (x := (7, _)) (lv' := [(0, _), (1, _), (2, _), (3, _), (4, _), (5, _), (6, _)]) ?_
    refine AW.pop_less (x := (6, _)) (lv' := [(0, _), (1, _), (2, _), (3, _), (4, _), (5, _)]) ?_
    exact AW.wide (bc' := bC) (bs' := bS) (show bC ≤ bC + 1 from Nat.le_succ bC) (show bS ≤ bS + 1 from Nat.le_succ bS) zk
  · skip
    obtain ⟨ze, zv, zk⟩ := h0 i y1 y2 y3 y4
    subst ze
    refine ck_r ?_
    refine a_istore (i := 7) (lv' := [(0, _), (1, _), (2, _), (3, _), (4, _), (5, _), (6, _), (7, _)]) q234_2046 rfl rfl ?_
    refine a_aload_n (i := 2) q234_2048 rfl rfl ?_
    refine a_cv0 q234_2049 rfl rfl ⟨rfl, rfl⟩ rfl ?_
    refine c_X10_thrown ?_
    refine ck_r ?_
    refine AW.ti (show _ = (0 : Int32) from rfl) ?_
    refine a_iload q234_2052 rfl ?_
    refine a_icmp_eq (tgt := 2059) q234_2054 (by decide) (fun zc2054 => ?_) (fun zc2054 => absurd (rfl) zc2054)
    refine a_iload q234_2059 rfl ?_
    refine a_if_ne (tgt := 2076) q234_2061 (by decide) (fun zc2061 => absurd zc2061 (by decide)) (fun zc2061 => ?_)
    refine a_aload_n (i := 3) q234_2064 rfl rfl ?_
    refine a_iconst (v := 0) q234_2065 (by decide) ?_
    refine a_lald' (j := 0) q234_2066 rfl rfl (by decide) (by decide) ?_
    refine AW.tl zv ?_
    refine a_iload q234_2067 rfl ?_
    refine a_i2l q234_2069 ?_
    refine a_lcmp q234_2070 ?_
    refine a_if_eq (tgt := 2076) q234_2071 (by decide) (fun zc2071 => ?_) (fun zc2071 => absurd ((lg_cmp_eq _ _).mpr rfl) zc2071)
    refine a_goto (tgt := 2206) q234_2076 (by decide) ?_
    refine AW.pop_less (x := (7, _)) (lv' := [(0, _), (1, _), (2, _), (3, _), (4, _), (5, _), (6, _)]) ?_
    refine AW.pop_less (x := (6, _)) (lv' := [(0, _), (1, _), (2, _), (3, _), (4, _), (5, _)]) ?_
    exact AW.wide (bc' := bC) (bs' := bS) (show bC ≤ bC + 1 from Nat.le_succ bC) (show bS ≤ bS + 1 from Nat.le_succ bS) zk

theorem opB_brokenRule {X : XS} {I : Nat → Int32} {A : Nat → Nat → Int32} {L : Nat → Nat → Int64} {O : Nat → UInt64} {Q : AO → AH → Prop} {ii bC bS : Nat} {ev : Int32} (hX : X.1 ≤ 3584) (hi : ii + 7 ≤ X.1) {n : Nat} (hn : I 20 = nI n) (hn40 : n ≤ 40) (hg : vch (A 30)) (hq : ev = (m_fb (I 27) (kndA A n 6) ((kndA A n 6) 30)) ∧ AW X 234 2206 [(0, .ref 1003), (1, .ref 0), (2, .ref 21), (3, .ref 35), (4, .ref 36), (5, .int (nI ii))] [] (hp (va_up I 26 0) (kndA A n 6) L O) bC bS Q) : AW X 234 2083 [(0, .ref 1003), (1, .ref 0), (2, .ref 21), (3, .ref 35), (4, .ref 36), (5, .int (nI ii))] [.int ev] (hp I A L O) (bC + 1) (bS + 1) Q := by
  refine a_aload_n (i := 2) q234_2083 rfl rfl ?_
  refine a_cv0 q234_2084 rfl rfl ⟨rfl, rfl⟩ rfl ?_
  refine c_X10_brokenRule (hn := hn) (hn40 := hn40) (hg := hg) (hq := ?_)
  · skip
    obtain ⟨ze, zk⟩ := hq
    subst ze
    refine ck_r ?_
    refine a_icmp_eq (tgt := 2206) q234_2087 (by decide) (fun zc2087 => ?_) (fun zc2087 => absurd (rfl) zc2087)
    
    exact AW.wide (bc' := bC) (bs' := bS) (show bC ≤ bC + 1 from Nat.le_succ bC) (show bS ≤ bS + 1 from Nat.le_succ bS) zk

theorem opB_softRules {X : XS} {I : Nat → Int32} {A : Nat → Nat → Int32} {L : Nat → Nat → Int64} {O : Nat → UInt64} {Q : AO → AH → Prop} {ii bC bS : Nat} {ev : Int32} (hX : X.1 ≤ 3584) (hi : ii + 7 ≤ X.1) {n : Nat} (hn : I 20 = nI n) (hn40 : n ≤ 40) (hg : vch (A 30)) (hq : ev = (m_soft (I 20) (kndA A n 6) ((kndA A n 6) 30)) ∧ AW X 234 2206 [(0, .ref 1003), (1, .ref 0), (2, .ref 21), (3, .ref 35), (4, .ref 36), (5, .int (nI ii))] [] (hp (va_up I 26 0) (kndA A n 6) L O) bC bS Q) : AW X 234 2096 [(0, .ref 1003), (1, .ref 0), (2, .ref 21), (3, .ref 35), (4, .ref 36), (5, .int (nI ii))] [.int ev] (hp I A L O) (bC + 1) (bS + 1) Q := by
  refine a_aload_n (i := 2) q234_2096 rfl rfl ?_
  refine a_cv0 q234_2097 rfl rfl ⟨rfl, rfl⟩ rfl ?_
  refine c_X10_softRules (hn := hn) (hn40 := hn40) (hg := hg) (hq := ?_)
  · skip
    obtain ⟨ze, zk⟩ := hq
    subst ze
    refine ck_r ?_
    refine a_icmp_eq (tgt := 2206) q234_2100 (by decide) (fun zc2100 => ?_) (fun zc2100 => absurd (rfl) zc2100)
    
    exact AW.wide (bc' := bC) (bs' := bS) (show bC ≤ bC + 1 from Nat.le_succ bC) (show bS ≤ bS + 1 from Nat.le_succ bS) zk

theorem opB_draftCost {X : XS} {I : Nat → Int32} {A : Nat → Nat → Int32} {L : Nat → Nat → Int64} {O : Nat → UInt64} {Q : AO → AH → Prop} {ii bC bS : Nat} {ev : Int32} (hX : X.1 ≤ 3584) (hi : ii + 7 ≤ X.1) {n : Nat} (hn : I 20 = nI n) (hn40 : n ≤ 40) (hg : vch (A 30)) (h1 : ¬ m_fb (I 27) (kndA A n 6) ((kndA A n 6) 30) = 0 → ev = 1 ∧ AW X 234 2206 [(0, .ref 1003), (1, .ref 0), (2, .ref 21), (3, .ref 35), (4, .ref 36), (5, .int (nI ii))] [] (hp (va_up I 26 1) (kndA A n 6) L O) bC bS Q) (h0 : m_fb (I 27) (kndA A n 6) ((kndA A n 6) 30) = 0 → ev = 0 ∧ L 35 0 = ((m_cost n (kndA A n 6) ((kndA A n 6) 30))).toInt64 ∧ AW X 234 2206 [(0, .ref 1003), (1, .ref 0), (2, .ref 21), (3, .ref 35), (4, .ref 36), (5, .int (nI ii))] [] (hp (va_up I 26 0) (kndA A n 6) L O) bC bS Q) : AW X 234 2112 [(0, .ref 1003), (1, .ref 0), (2, .ref 21), (3, .ref 35), (4, .ref 36), (5, .int (nI ii)), (6, .int ev)] [] (hp I A L O) (bC + 1) (bS + 1) Q := by
  refine a_aload_n (i := 2) q234_2112 rfl rfl ?_
  refine a_cv0 q234_2113 rfl rfl ⟨rfl, rfl⟩ rfl ?_
  refine c_X10_draftCost (hn := hn) (hn40 := hn40) (hg := hg) (h1 := fun y0 => ?_) (h0 := fun y0 => ?_)
  · skip
    obtain ⟨ze, zk⟩ := h1 y0
    subst ze
    refine ck_r ?_
    refine a_istore (i := 7) (lv' := [(0, _), (1, _), (2, _), (3, _), (4, _), (5, _), (6, _), (7, _)]) q234_2116 rfl rfl ?_
    refine a_aload_n (i := 2) q234_2118 rfl rfl ?_
    refine a_cv0 q234_2119 rfl rfl ⟨rfl, rfl⟩ rfl ?_
    refine c_X10_thrown ?_
    refine ck_r ?_
    refine AW.ti (show _ = (1 : Int32) from rfl) ?_
    refine a_iload q234_2122 rfl ?_
    refine a_icmp_eq (tgt := 2129) q234_2124 (by decide) (fun zc2124 => ?_) (fun zc2124 => absurd (rfl) zc2124)
    refine a_iload q234_2129 rfl ?_
    refine a_if_ne (tgt := 2146) q234_2131 (by decide) (fun zc2131 => ?_) (fun zc2131 => absurd zc2131 (by decide))
    refine a_goto (tgt := 2206) q234_2146 (by decide) ?_
    refine AW.pop_less (x := (7, _)) (lv' := [(0, _), (1, _), (2, _), (3, _), (4, _), (5, _), (6, _)]) ?_
    refine AW.pop_less (x := (6, _)) (lv' := [(0, _), (1, _), (2, _), (3, _), (4, _), (5, _)]) ?_
    exact AW.wide (bc' := bC) (bs' := bS) (show bC ≤ bC + 1 from Nat.le_succ bC) (show bS ≤ bS + 1 from Nat.le_succ bS) zk
  · skip
    obtain ⟨ze, zv, zk⟩ := h0 y0
    subst ze
    refine ck_r ?_
    refine a_istore (i := 7) (lv' := [(0, _), (1, _), (2, _), (3, _), (4, _), (5, _), (6, _), (7, _)]) q234_2116 rfl rfl ?_
    refine a_aload_n (i := 2) q234_2118 rfl rfl ?_
    refine a_cv0 q234_2119 rfl rfl ⟨rfl, rfl⟩ rfl ?_
    refine c_X10_thrown ?_
    refine ck_r ?_
    refine AW.ti (show _ = (0 : Int32) from rfl) ?_
    refine a_iload q234_2122 rfl ?_
    refine a_icmp_eq (tgt := 2129) q234_2124 (by decide) (fun zc2124 => ?_) (fun zc2124 => absurd (rfl) zc2124)
    refine a_iload q234_2129 rfl ?_
    refine a_if_ne (tgt := 2146) q234_2131 (by decide) (fun zc2131 => absurd zc2131 (by decide)) (fun zc2131 => ?_)
    refine a_aload_n (i := 3) q234_2134 rfl rfl ?_
    refine a_iconst (v := 0) q234_2135 (by decide) ?_
    refine a_lald' (j := 0) q234_2136 rfl rfl (by decide) (by decide) ?_
    refine AW.tl zv ?_
    refine a_iload q234_2137 rfl ?_
    refine a_i2l q234_2139 ?_
    refine a_lcmp q234_2140 ?_
    refine a_if_eq (tgt := 2146) q234_2141 (by decide) (fun zc2141 => ?_) (fun zc2141 => absurd ((lg_cmp_eq _ _).mpr rfl) zc2141)
    refine a_goto (tgt := 2206) q234_2146 (by decide) ?_
    refine AW.pop_less (x := (7, _)) (lv' := [(0, _), (1, _), (2, _), (3, _), (4, _), (5, _), (6, _)]) ?_
    refine AW.pop_less (x := (6, _)) (lv' := [(0, _), (1, _), (2, _), (3, _), (4, _), (5, _)]) ?_
    exact AW.wide (bc' := bC) (bs' := bS) (show bC ≤ bC + 1 from Nat.le_succ bC) (show bS ≤ bS + 1 from Nat.le_succ bS) zk

theorem opB_draftRank {X : XS} {I : Nat → Int32} {A : Nat → Nat → Int32} {L : Nat → Nat → Int64} {O : Nat → UInt64} {Q : AO → AH → Prop} {ii bC bS : Nat} {ev : Int32} (hX : X.1 ≤ 3584) (hi : ii + 7 ≤ X.1) {n : Nat} (hn : I 20 = nI n) (hn40 : n ≤ 40) (hg : vch (A 30)) (h1 : ¬ m_fb ((mkI I n A) 27) (mkA I n A) ((mkA I n A) 30) = 0 → ev = 1 ∧ AW X 234 2206 [(0, .ref 1003), (1, .ref 0), (2, .ref 21), (3, .ref 35), (4, .ref 36), (5, .int (nI ii))] [] (hp (va_up (mkI I n A) 26 1) (mkA I n A) L O) bC bS Q) (h0 : m_fb ((mkI I n A) 27) (mkA I n A) ((mkA I n A) 30) = 0 → ev = 0 ∧ L 35 0 = (((mkI I n A) 25)).toInt64 ∧ AW X 234 2206 [(0, .ref 1003), (1, .ref 0), (2, .ref 21), (3, .ref 35), (4, .ref 36), (5, .int (nI ii))] [] (hp (va_up (mkI I n A) 26 0) (mkA I n A) L O) bC bS Q) : AW X 234 2156 [(0, .ref 1003), (1, .ref 0), (2, .ref 21), (3, .ref 35), (4, .ref 36), (5, .int (nI ii)), (6, .int ev)] [] (hp I A L O) (bC + 1) (bS + 1) Q := by
  refine a_aload_n (i := 2) q234_2156 rfl rfl ?_
  refine a_cv0 q234_2157 rfl rfl ⟨rfl, rfl⟩ rfl ?_
  refine c_X10_draftRank (hn := hn) (hn40 := hn40) (hg := hg) (h1 := fun y0 => ?_) (h0 := fun y0 => ?_)
  · skip
    obtain ⟨ze, zk⟩ := h1 y0
    subst ze
    refine ck_r ?_
    refine a_istore (i := 7) (lv' := [(0, _), (1, _), (2, _), (3, _), (4, _), (5, _), (6, _), (7, _)]) q234_2160 rfl rfl ?_
    refine a_aload_n (i := 2) q234_2162 rfl rfl ?_
    refine a_cv0 q234_2163 rfl rfl ⟨rfl, rfl⟩ rfl ?_
    refine c_X10_thrown ?_
    refine ck_r ?_
    refine AW.ti (show _ = (1 : Int32) from rfl) ?_
    refine a_iload q234_2166 rfl ?_
    refine a_icmp_eq (tgt := 2173) q234_2168 (by decide) (fun zc2168 => ?_) (fun zc2168 => absurd (rfl) zc2168)
    refine a_iload q234_2173 rfl ?_
    refine a_if_ne (tgt := 2190) q234_2175 (by decide) (fun zc2175 => ?_) (fun zc2175 => absurd zc2175 (by decide))
    refine a_goto (tgt := 2206) q234_2190 (by decide) ?_
    refine AW.pop_less (x := (7, _)) (lv' := [(0, _), (1, _), (2, _), (3, _), (4, _), (5, _), (6, _)]) ?_
    refine AW.pop_less (x := (6, _)) (lv' := [(0, _), (1, _), (2, _), (3, _), (4, _), (5, _)]) ?_
    exact AW.wide (bc' := bC) (bs' := bS) (show bC ≤ bC + 1 from Nat.le_succ bC) (show bS ≤ bS + 1 from Nat.le_succ bS) zk
  · skip
    obtain ⟨ze, zv, zk⟩ := h0 y0
    subst ze
    refine ck_r ?_
    refine a_istore (i := 7) (lv' := [(0, _), (1, _), (2, _), (3, _), (4, _), (5, _), (6, _), (7, _)]) q234_2160 rfl rfl ?_
    refine a_aload_n (i := 2) q234_2162 rfl rfl ?_
    refine a_cv0 q234_2163 rfl rfl ⟨rfl, rfl⟩ rfl ?_
    refine c_X10_thrown ?_
    refine ck_r ?_
    refine AW.ti (show _ = (0 : Int32) from rfl) ?_
    refine a_iload q234_2166 rfl ?_
    refine a_icmp_eq (tgt := 2173) q234_2168 (by decide) (fun zc2168 => ?_) (fun zc2168 => absurd (rfl) zc2168)
    refine a_iload q234_2173 rfl ?_
    refine a_if_ne (tgt := 2190) q234_2175 (by decide) (fun zc2175 => absurd zc2175 (by decide)) (fun zc2175 => ?_)
    refine a_aload_n (i := 3) q234_2178 rfl rfl ?_
    refine a_iconst (v := 0) q234_2179 (by decide) ?_
    refine a_lald' (j := 0) q234_2180 rfl rfl (by decide) (by decide) ?_
    refine AW.tl zv ?_
    refine a_iload q234_2181 rfl ?_
    refine a_i2l q234_2183 ?_
    refine a_lcmp q234_2184 ?_
    refine a_if_eq (tgt := 2190) q234_2185 (by decide) (fun zc2185 => ?_) (fun zc2185 => absurd ((lg_cmp_eq _ _).mpr rfl) zc2185)
    refine a_goto (tgt := 2206) q234_2190 (by decide) ?_
    refine AW.pop_less (x := (7, _)) (lv' := [(0, _), (1, _), (2, _), (3, _), (4, _), (5, _), (6, _)]) ?_
    refine AW.pop_less (x := (6, _)) (lv' := [(0, _), (1, _), (2, _), (3, _), (4, _), (5, _)]) ?_
    exact AW.wide (bc' := bC) (bs' := bS) (show bC ≤ bC + 1 from Nat.le_succ bC) (show bS ≤ bS + 1 from Nat.le_succ bS) zk

theorem opB_isSound {X : XS} {I : Nat → Int32} {A : Nat → Nat → Int32} {L : Nat → Nat → Int64} {O : Nat → UInt64} {Q : AO → AH → Prop} {ii bC bS : Nat} {ev : Int32} (hX : X.1 ≤ 3584) (hi : ii + 7 ≤ X.1)  (hq : ev = 1 ∧ AW X 234 2206 [(0, .ref 1003), (1, .ref 0), (2, .ref 21), (3, .ref 35), (4, .ref 36), (5, .int (nI ii))] [] (hp (va_up I 26 0) A L O) bC bS Q) : AW X 234 2197 [(0, .ref 1003), (1, .ref 0), (2, .ref 21), (3, .ref 35), (4, .ref 36), (5, .int (nI ii))] [.int ev] (hp I A L O) (bC + 1) (bS + 1) Q := by
  refine a_aload_n (i := 2) q234_2197 rfl rfl ?_
  refine a_cv0 q234_2198 rfl rfl ⟨rfl, rfl⟩ rfl ?_
  refine c_X10_isSound  (hq := ?_)
  · skip
    obtain ⟨ze, zk⟩ := hq
    subst ze
    refine ck_r ?_
    refine a_icmp_eq (tgt := 2206) q234_2201 (by decide) (fun zc2201 => ?_) (fun zc2201 => absurd (rfl) zc2201)
    
    exact AW.wide (bc' := bC) (bs' := bS) (show bC ≤ bC + 1 from Nat.le_succ bC) (show bS ≤ bS + 1 from Nat.le_succ bS) zk
