/-! a second object, as it is made, behind the world -/
def nob (pl : Nat → Int32) : AH := [.inl (7, [.ref 23, .ref 31, .ref 32, .ref 34, .ref 37, .ref 41, .int 3, .int (g_bare 98 0)]), .inl (5, [.ref 24, .ref 25, .ref 26, .ref 27, .ref 28, .ref 29, .ref 30, .int 0]), .inr (0, 240, .inl (fun _ => 0)), .inr (0, 6, .inl A3_0), .inr (0, 6, .inl A4_0), .inr (0, 6, .inl (fun _ => 0)), .inr (0, 6, .inl (fun _ => 0)), .inr (1, 6, .inr (.inl (fun _ => 0))), .inr (1, 6, .inr (.inl (fun _ => 0))), .inl (2, [.ref 23, .int 0, .int 45, .int 0]), .inl (1, [.ref 23, .ref 33]), .inr (0, 8, .inl ro_w), .inl (4, [.ref 31, .ref 32, .ref 35, .int 1]), .inl (0, [.ref 36, .int 0]), .inr (1, 5, .inr (.inl (fun _ => 0))), .inl (6, [.ref 31, .ref 32, .ref 38, .ref 40, .int 0, .int 0]), .inl (0, [.ref 39, .int 0]), .inr (1, 5, .inr (.inl (fun _ => 0))), .inr (0, 1045, .inl pl), .inl (3, [.ref 42, .int 0, .int (-1)]), .inr (0, 4, .inl (fun _ => 0))]
section SEC
variable {X : XS} {I : Nat → Int32} {A : Nat → Nat → Int32} {L : Nat → Nat → Int64} {Q : AO → AH → Prop} {pl : Nat → Int32}
theorem nob_w (pl : Nat → Int32) : hp I A L [.inl (7, [.ref 23, .ref 31, .ref 32, .ref 34, .ref 37, .ref 41, .int 3, .int (g_bare 98 0)]), .inl (5, [.ref 24, .ref 25, .ref 26, .ref 27, .ref 28, .ref 29, .ref 30, .int 0]), .inr (0, 240, .inl (fun _ => 0)), .inr (0, 6, .inl A3_0), .inr (0, 6, .inl A4_0), .inr (0, 6, .inl (fun _ => 0)), .inr (0, 6, .inl (fun _ => 0)), .inr (1, 6, .inr (.inl (fun _ => 0))), .inr (1, 6, .inr (.inl (fun _ => 0))), .inl (2, [.ref 23, .int 0, .int 45, .int 0]), .inl (1, [.ref 23, .ref 33]), .inr (0, 8, .inl ro_w), .inl (4, [.ref 31, .ref 32, .ref 35, .int 1]), .inl (0, [.ref 36, .int 0]), .inr (1, 5, .inr (.inl (fun _ => 0))), .inl (6, [.ref 31, .ref 32, .ref 38, .ref 40, .int 0, .int 0]), .inl (0, [.ref 39, .int 0]), .inr (1, 5, .inr (.inl (fun _ => 0))), .inr (0, 1045, .inl pl), .inl (3, [.ref 42, .int 0, .int (-1)]), .inr (0, 4, .inl (fun _ => 0))] = hp I A L (nob pl) := rfl
theorem nob_d (pl : Nat → Int32) : hp I A L (nob pl) = hp I A L [] ++ nob pl := rfl
theorem c_X7_countIn_w (hq : Q (.inl (some (.int 0))) (hp I A L (nob pl))) : Call X 49 [.ref 23, .int 0] (hp I A L (nob pl)) Q := by
  refine call_of (by decide) rfl rfl ?_
  refine a_iload_n (i := 1) q49_0 rfl rfl ?_
  refine a_cs1 q49_1 rfl ⟨rfl, rfl⟩ rfl ?_
  refine c_X9_isColumn ?_
  refine ck_r ?_
  refine a_if_eq (tgt := 16) q49_4 (by decide) (fun zc4 => absurd zc4 (by decide)) (fun zc4 => ?_)
  refine a_aload_n (i := 0) q49_7 rfl rfl ?_
  refine a_getfield q49_8 rfl rfl ?_
  refine a_iload_n (i := 1) q49_11 rfl rfl ?_
  refine a_iald q49_12 rfl (isCol_in (by decide)) ?_
  refine a_goto (tgt := 17) q49_13 (by decide) ?_
  refine a_ireturn q49_17 (nr_int rfl _) ?_
  exact hq
theorem c_X7_rowCount_w (hq : Q (.inl (some (.int 0))) (hp I A L (nob pl))) : Call X 44 [.ref 23] (hp I A L (nob pl)) Q := by
  refine call_of (by decide) rfl rfl ?_
  refine a_aload_n (i := 0) q44_0 rfl rfl ?_
  refine a_getfield q44_1 rfl rfl ?_
  refine a_ireturn q44_4 (nr_int rfl _) ?_
  exact hq
theorem c_X9_meanOf_w (hq : Q (.inr 3) (hp I A L (nob pl))) : Call X 78 [.ref 22, .int 0] (hp I A L (nob pl)) Q := by
  refine call_of (by decide) rfl rfl ?_
  refine a_iload_n (i := 1) q78_0 rfl rfl ?_
  refine a_cs1 q78_1 rfl ⟨rfl, rfl⟩ rfl ?_
  refine c_X9_requireColumn (fun zcol => ?_) (fun zn => absurd (by decide) zn)
  refine ck_v ?_
  refine a_aload_n (i := 0) q78_4 rfl rfl ?_
  refine a_getfield q78_5 rfl rfl ?_
  refine a_iload_n (i := 1) q78_8 rfl rfl ?_
  refine a_cv1 q78_9 rfl rfl ⟨rfl, rfl⟩ rfl ?_
  refine c_X7_countIn_w ?_
  refine ck_r ?_
  refine a_istore_n (i := 2) (lv' := [(0, _), (1, _), (2, _)]) q78_12 rfl rfl rfl ?_
  refine a_iload_n (i := 2) q78_13 rfl rfl ?_
  refine a_if_ne (tgt := 27) q78_14 (by decide) (fun zc14 => absurd rfl zc14) (fun zc14 => ?_)
  refine a_throw q78_17 ⟨by decide, by decide⟩ (by decide) ?_
  exact hq
theorem c_X9_filled_w (hq : Q (.inr 3) (hp I A L (nob pl))) : Call X 79 [.ref 22, .int 0] (hp I A L (nob pl)) Q := by
  refine call_of (by decide) rfl rfl ?_
  refine a_iload_n (i := 1) q79_0 rfl rfl ?_
  refine a_cs1 q79_1 rfl ⟨rfl, rfl⟩ rfl ?_
  refine c_X9_requireColumn (fun zcol => ?_) (fun zn => absurd (by decide) zn)
  refine ck_v ?_
  refine a_aload_n (i := 0) q79_4 rfl rfl ?_
  refine a_getfield q79_5 rfl rfl ?_
  refine a_cv0 q79_8 rfl rfl ⟨rfl, rfl⟩ rfl ?_
  refine c_X7_rowCount_w ?_
  refine ck_r ?_
  refine a_istore_n (i := 2) (lv' := [(0, _), (1, _), (2, _)]) q79_11 rfl rfl rfl ?_
  refine a_iload_n (i := 2) q79_12 rfl rfl ?_
  refine a_if_ne (tgt := 26) q79_13 (by decide) (fun zc13 => absurd rfl zc13) (fun zc13 => ?_)
  refine a_throw q79_16 ⟨by decide, by decide⟩ (by decide) ?_
  exact hq
theorem c_L_meanOf_w (hq : Q (.inl (some (.double 13919350207260131328))) (hp I A L (nob pl))) : Call X 114 [.ref 22, .int 0] (hp I A L (nob pl)) Q := by
  refine call_ofH (by decide) (by decide) rfl ?_
  refine a_aload_n (i := 0) q114_0 rfl rfl ?_
  refine a_iload_n (i := 1) q114_1 rfl rfl ?_
  refine a_callVH (as := [_]) q114_2 rfl rfl rfl ⟨rfl, rfl⟩ rfl ?_
  refine c_X9_meanOf_w ?_
  refine ⟨(3, 11, 2, 1), by decide, rfl, ?_⟩
  refine a_ldc2d (v := 13919350207260131328) q114_12 (by decide) ?_
  refine a_dreturn q114_15 rfl ?_
  exact hq
theorem c_L_filled_w (hq : Q (.inl (some (.float 3378231840))) (hp I A L (nob pl))) : Call X 115 [.ref 22, .int 0] (hp I A L (nob pl)) Q := by
  refine call_ofH (by decide) (by decide) rfl ?_
  refine a_aload_n (i := 0) q115_0 rfl rfl ?_
  refine a_iload_n (i := 1) q115_1 rfl rfl ?_
  refine a_callVH (as := [_]) q115_2 rfl rfl rfl ⟨rfl, rfl⟩ rfl ?_
  refine c_X9_filled_w ?_
  refine ⟨(3, 10, 2, 1), by decide, rfl, ?_⟩
  refine a_ldcf (v := 3378231840) q115_11 (by decide) ?_
  refine a_freturn q115_13 rfl ?_
  exact hq
end SEC
