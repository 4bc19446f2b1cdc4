/-! constructors, the rest -/
theorem c_X8_init {X : XS} {Q : AO → AH → Prop}  (hq : Q (.inl none) [.inl (7, [.ref 1, .ref 9, .ref 10, .ref 12, .null, .null, .int 0, .int 0]), .inl (5, [.ref 2, .ref 3, .ref 4, .ref 5, .ref 6, .ref 7, .ref 8, .int 0]), .inr (0, 240, .inl (fun _ => 0)), .inr (0, 6, .inl A3_0), .inr (0, 6, .inl A4_0), .inr (0, 6, .inl (fun _ => 0)), .inr (0, 6, .inl (fun _ => 0)), .inr (1, 6, .inr (.inl (fun _ => 0))), .inr (1, 6, .inr (.inl (fun _ => 0))), .inl (2, [.ref 1, .int 0, .int 45, .int 0]), .inl (1, [.ref 1, .ref 11]), .inr (0, 8, .inl ro_w), .inl (4, [.ref 9, .ref 10, .ref 13, .int 1]), .inl (0, [.ref 14, .int 0]), .inr (1, 5, .inr (.inl (fun _ => 0))), .inl (6, [.ref 9, .ref 10, .ref 16, .ref 18, .int 0, .int 0]), .inl (0, [.ref 17, .int 0]), .inr (1, 5, .inr (.inl (fun _ => 0))), .inr (0, 1045, .inl PLC)]) : Call X 73 [.ref 15, .ref 9, .ref 10] [.inl (7, [.ref 1, .ref 9, .ref 10, .ref 12, .null, .null, .int 0, .int 0]), .inl (5, [.ref 2, .ref 3, .ref 4, .ref 5, .ref 6, .ref 7, .ref 8, .int 0]), .inr (0, 240, .inl (fun _ => 0)), .inr (0, 6, .inl A3_0), .inr (0, 6, .inl A4_0), .inr (0, 6, .inl (fun _ => 0)), .inr (0, 6, .inl (fun _ => 0)), .inr (1, 6, .inr (.inl (fun _ => 0))), .inr (1, 6, .inr (.inl (fun _ => 0))), .inl (2, [.ref 1, .int 0, .int 45, .int 0]), .inl (1, [.ref 1, .ref 11]), .inr (0, 8, .inl ro_w), .inl (4, [.ref 9, .ref 10, .ref 13, .int 1]), .inl (0, [.ref 14, .int 0]), .inr (1, 5, .inr (.inl (fun _ => 0))), .inl (6, dfl 6)] Q := by
  refine call_of (by decide) rfl rfl ?_
  refine a_aload_n (i := 0) q73_0 rfl rfl ?_
  refine a_objInit q73_1 rfl ?_
  refine a_aload_n (i := 0) q73_4 rfl rfl ?_
  refine a_new (a := 0) (kn := 16) q73_5 rfl (by decide) rfl ⟨rfl, rfl⟩ ?_
  refine a_dup q73_8 rfl ?_
  refine a_callI (as := []) q73_9 rfl rfl ⟨rfl, rfl⟩ (Or.inr ⟨rfl, rfl, rfl⟩) (c_X0_init_2 (ck_v ?_))
  refine a_putfield q73_12 rfl rfl rfl rfl ?_
  refine AW.hp (h' := [.inl (7, [.ref 1, .ref 9, .ref 10, .ref 12, .null, .null, .int 0, .int 0]), .inl (5, [.ref 2, .ref 3, .ref 4, .ref 5, .ref 6, .ref 7, .ref 8, .int 0]), .inr (0, 240, .inl (fun _ => 0)), .inr (0, 6, .inl A3_0), .inr (0, 6, .inl A4_0), .inr (0, 6, .inl (fun _ => 0)), .inr (0, 6, .inl (fun _ => 0)), .inr (1, 6, .inr (.inl (fun _ => 0))), .inr (1, 6, .inr (.inl (fun _ => 0))), .inl (2, [.ref 1, .int 0, .int 45, .int 0]), .inl (1, [.ref 1, .ref 11]), .inr (0, 8, .inl ro_w), .inl (4, [.ref 9, .ref 10, .ref 13, .int 1]), .inl (0, [.ref 14, .int 0]), .inr (1, 5, .inr (.inl (fun _ => 0))), .inl (6, [.null, .null, .ref 16, .null, .int 0, .int 0]), .inl (0, [.ref 17, .int 0]), .inr (1, 5, .inr (.inl (fun _ => 0)))]) rfl ?_
  refine a_aload_n (i := 0) q73_15 rfl rfl ?_
  refine a_aload_n (i := 1) q73_16 rfl rfl ?_
  refine a_putfield q73_17 rfl rfl rfl rfl ?_
  refine AW.hp (h' := [.inl (7, [.ref 1, .ref 9, .ref 10, .ref 12, .null, .null, .int 0, .int 0]), .inl (5, [.ref 2, .ref 3, .ref 4, .ref 5, .ref 6, .ref 7, .ref 8, .int 0]), .inr (0, 240, .inl (fun _ => 0)), .inr (0, 6, .inl A3_0), .inr (0, 6, .inl A4_0), .inr (0, 6, .inl (fun _ => 0)), .inr (0, 6, .inl (fun _ => 0)), .inr (1, 6, .inr (.inl (fun _ => 0))), .inr (1, 6, .inr (.inl (fun _ => 0))), .inl (2, [.ref 1, .int 0, .int 45, .int 0]), .inl (1, [.ref 1, .ref 11]), .inr (0, 8, .inl ro_w), .inl (4, [.ref 9, .ref 10, .ref 13, .int 1]), .inl (0, [.ref 14, .int 0]), .inr (1, 5, .inr (.inl (fun _ => 0))), .inl (6, [.ref 9, .null, .ref 16, .null, .int 0, .int 0]), .inl (0, [.ref 17, .int 0]), .inr (1, 5, .inr (.inl (fun _ => 0)))]) rfl ?_
  refine a_aload_n (i := 0) q73_20 rfl rfl ?_
  refine a_aload_n (i := 2) q73_21 rfl rfl ?_
  refine a_putfield q73_22 rfl rfl rfl rfl ?_
  refine AW.hp (h' := h18) rfl ?_
  refine a_aload_n (i := 0) q73_25 rfl rfl ?_
  refine a_callS (as := []) q73_26 rfl rfl ⟨rfl, rfl⟩ (Or.inr ⟨rfl, rfl, rfl⟩) (c_X8_listPlacements (ck_r ?_))
  refine a_putfield q73_29 rfl rfl rfl rfl ?_
  refine AW.hp (h' := [.inl (7, [.ref 1, .ref 9, .ref 10, .ref 12, .null, .null, .int 0, .int 0]), .inl (5, [.ref 2, .ref 3, .ref 4, .ref 5, .ref 6, .ref 7, .ref 8, .int 0]), .inr (0, 240, .inl (fun _ => 0)), .inr (0, 6, .inl A3_0), .inr (0, 6, .inl A4_0), .inr (0, 6, .inl (fun _ => 0)), .inr (0, 6, .inl (fun _ => 0)), .inr (1, 6, .inr (.inl (fun _ => 0))), .inr (1, 6, .inr (.inl (fun _ => 0))), .inl (2, [.ref 1, .int 0, .int 45, .int 0]), .inl (1, [.ref 1, .ref 11]), .inr (0, 8, .inl ro_w), .inl (4, [.ref 9, .ref 10, .ref 13, .int 1]), .inl (0, [.ref 14, .int 0]), .inr (1, 5, .inr (.inl (fun _ => 0))), .inl (6, [.ref 9, .ref 10, .ref 16, .ref 18, .int 0, .int 0]), .inl (0, [.ref 17, .int 0]), .inr (1, 5, .inr (.inl (fun _ => 0))), .inr (0, 1045, .inl PLC)]) rfl ?_
  refine a_return q73_32 rfl ?_
  exact hq

theorem c_X4_init {X : XS} {Q : AO → AH → Prop}  (hq : Q (.inl none) [.inl (7, [.ref 1, .ref 9, .ref 10, .ref 12, .ref 15, .null, .int 0, .int 0]), .inl (5, [.ref 2, .ref 3, .ref 4, .ref 5, .ref 6, .ref 7, .ref 8, .int 0]), .inr (0, 240, .inl (fun _ => 0)), .inr (0, 6, .inl A3_0), .inr (0, 6, .inl A4_0), .inr (0, 6, .inl (fun _ => 0)), .inr (0, 6, .inl (fun _ => 0)), .inr (1, 6, .inr (.inl (fun _ => 0))), .inr (1, 6, .inr (.inl (fun _ => 0))), .inl (2, [.ref 1, .int 0, .int 45, .int 0]), .inl (1, [.ref 1, .ref 11]), .inr (0, 8, .inl ro_w), .inl (4, [.ref 9, .ref 10, .ref 13, .int 1]), .inl (0, [.ref 14, .int 0]), .inr (1, 5, .inr (.inl (fun _ => 0))), .inl (6, [.ref 9, .ref 10, .ref 16, .ref 18, .int 0, .int 0]), .inl (0, [.ref 17, .int 0]), .inr (1, 5, .inr (.inl (fun _ => 0))), .inr (0, 1045, .inl PLC), .inl (3, [.ref 20, .int 0, .int (-1)]), .inr (0, 4, .inl (fun _ => 0))]) : Call X 35 [.ref 19] [.inl (7, [.ref 1, .ref 9, .ref 10, .ref 12, .ref 15, .null, .int 0, .int 0]), .inl (5, [.ref 2, .ref 3, .ref 4, .ref 5, .ref 6, .ref 7, .ref 8, .int 0]), .inr (0, 240, .inl (fun _ => 0)), .inr (0, 6, .inl A3_0), .inr (0, 6, .inl A4_0), .inr (0, 6, .inl (fun _ => 0)), .inr (0, 6, .inl (fun _ => 0)), .inr (1, 6, .inr (.inl (fun _ => 0))), .inr (1, 6, .inr (.inl (fun _ => 0))), .inl (2, [.ref 1, .int 0, .int 45, .int 0]), .inl (1, [.ref 1, .ref 11]), .inr (0, 8, .inl ro_w), .inl (4, [.ref 9, .ref 10, .ref 13, .int 1]), .inl (0, [.ref 14, .int 0]), .inr (1, 5, .inr (.inl (fun _ => 0))), .inl (6, [.ref 9, .ref 10, .ref 16, .ref 18, .int 0, .int 0]), .inl (0, [.ref 17, .int 0]), .inr (1, 5, .inr (.inl (fun _ => 0))), .inr (0, 1045, .inl PLC), .inl (3, dfl 3)] Q := by
  refine call_of (by decide) rfl rfl ?_
  refine a_aload_n (i := 0) q35_0 rfl rfl ?_
  refine a_objInit q35_1 rfl ?_
  refine a_aload_n (i := 0) q35_4 rfl rfl ?_
  refine a_iconst (v := 4) q35_5 (by decide) ?_
  refine a_newarray (a := 0) (kn := 20) (N := 4) q35_6 (by decide) rfl (by decide) rfl (by decide) rfl ⟨rfl, rfl⟩ ?_
  refine a_putfield q35_8 rfl rfl rfl rfl ?_
  refine AW.hp (h' := [.inl (7, [.ref 1, .ref 9, .ref 10, .ref 12, .ref 15, .null, .int 0, .int 0]), .inl (5, [.ref 2, .ref 3, .ref 4, .ref 5, .ref 6, .ref 7, .ref 8, .int 0]), .inr (0, 240, .inl (fun _ => 0)), .inr (0, 6, .inl A3_0), .inr (0, 6, .inl A4_0), .inr (0, 6, .inl (fun _ => 0)), .inr (0, 6, .inl (fun _ => 0)), .inr (1, 6, .inr (.inl (fun _ => 0))), .inr (1, 6, .inr (.inl (fun _ => 0))), .inl (2, [.ref 1, .int 0, .int 45, .int 0]), .inl (1, [.ref 1, .ref 11]), .inr (0, 8, .inl ro_w), .inl (4, [.ref 9, .ref 10, .ref 13, .int 1]), .inl (0, [.ref 14, .int 0]), .inr (1, 5, .inr (.inl (fun _ => 0))), .inl (6, [.ref 9, .ref 10, .ref 16, .ref 18, .int 0, .int 0]), .inl (0, [.ref 17, .int 0]), .inr (1, 5, .inr (.inl (fun _ => 0))), .inr (0, 1045, .inl PLC), .inl (3, [.ref 20, .int 0, .int 0]), .inr (0, 4, .inl (fun _ => 0))]) rfl ?_
  refine a_aload_n (i := 0) q35_11 rfl rfl ?_
  refine a_iconst (v := (-1)) q35_12 (by decide) ?_
  refine a_putfield q35_13 rfl rfl rfl rfl ?_
  refine AW.hp (h' := [.inl (7, [.ref 1, .ref 9, .ref 10, .ref 12, .ref 15, .null, .int 0, .int 0]), .inl (5, [.ref 2, .ref 3, .ref 4, .ref 5, .ref 6, .ref 7, .ref 8, .int 0]), .inr (0, 240, .inl (fun _ => 0)), .inr (0, 6, .inl A3_0), .inr (0, 6, .inl A4_0), .inr (0, 6, .inl (fun _ => 0)), .inr (0, 6, .inl (fun _ => 0)), .inr (1, 6, .inr (.inl (fun _ => 0))), .inr (1, 6, .inr (.inl (fun _ => 0))), .inl (2, [.ref 1, .int 0, .int 45, .int 0]), .inl (1, [.ref 1, .ref 11]), .inr (0, 8, .inl ro_w), .inl (4, [.ref 9, .ref 10, .ref 13, .int 1]), .inl (0, [.ref 14, .int 0]), .inr (1, 5, .inr (.inl (fun _ => 0))), .inl (6, [.ref 9, .ref 10, .ref 16, .ref 18, .int 0, .int 0]), .inl (0, [.ref 17, .int 0]), .inr (1, 5, .inr (.inl (fun _ => 0))), .inr (0, 1045, .inl PLC), .inl (3, [.ref 20, .int 0, .int (-1)]), .inr (0, 4, .inl (fun _ => 0))]) rfl ?_
  refine a_return q35_16 rfl ?_
  exact hq

theorem c_X9_init {X : XS} {Q : AO → AH → Prop}  (hq : Q (.inl none) [.inl (7, [.ref 1, .ref 9, .ref 10, .ref 12, .ref 15, .ref 19, .int 3, .int (g_bare 98 0)]), .inl (5, [.ref 2, .ref 3, .ref 4, .ref 5, .ref 6, .ref 7, .ref 8, .int 0]), .inr (0, 240, .inl (fun _ => 0)), .inr (0, 6, .inl A3_0), .inr (0, 6, .inl A4_0), .inr (0, 6, .inl (fun _ => 0)), .inr (0, 6, .inl (fun _ => 0)), .inr (1, 6, .inr (.inl (fun _ => 0))), .inr (1, 6, .inr (.inl (fun _ => 0))), .inl (2, [.ref 1, .int 0, .int 45, .int 0]), .inl (1, [.ref 1, .ref 11]), .inr (0, 8, .inl ro_w), .inl (4, [.ref 9, .ref 10, .ref 13, .int 1]), .inl (0, [.ref 14, .int 0]), .inr (1, 5, .inr (.inl (fun _ => 0))), .inl (6, [.ref 9, .ref 10, .ref 16, .ref 18, .int 0, .int 0]), .inl (0, [.ref 17, .int 0]), .inr (1, 5, .inr (.inl (fun _ => 0))), .inr (0, 1045, .inl PLC), .inl (3, [.ref 20, .int 0, .int (-1)]), .inr (0, 4, .inl (fun _ => 0))]) : Call X 81 [.ref 0] [.inl (7, dfl 7)] Q := by
  refine call_of (by decide) rfl rfl ?_
  refine a_aload_n (i := 0) q81_0 rfl rfl ?_
  refine a_objInit q81_1 rfl ?_
  refine a_aload_n (i := 0) q81_4 rfl rfl ?_
  refine a_new (a := 5) (kn := 1) q81_5 rfl (by decide) rfl ⟨rfl, rfl⟩ ?_
  refine a_dup q81_8 rfl ?_
  refine a_callI (as := []) q81_9 rfl rfl ⟨rfl, rfl⟩ (Or.inr ⟨rfl, rfl, rfl⟩) (c_X7_init (ck_v ?_))
  refine a_putfield q81_12 rfl rfl rfl rfl ?_
  refine AW.hp (h' := [.inl (7, [.ref 1, .null, .null, .null, .null, .null, .int 0, .int 0]), .inl (5, [.ref 2, .ref 3, .ref 4, .ref 5, .ref 6, .ref 7, .ref 8, .int 0]), .inr (0, 240, .inl (fun _ => 0)), .inr (0, 6, .inl A3_0), .inr (0, 6, .inl A4_0), .inr (0, 6, .inl (fun _ => 0)), .inr (0, 6, .inl (fun _ => 0)), .inr (1, 6, .inr (.inl (fun _ => 0))), .inr (1, 6, .inr (.inl (fun _ => 0)))]) rfl ?_
  refine a_aload_n (i := 0) q81_15 rfl rfl ?_
  refine a_new (a := 2) (kn := 9) q81_16 rfl (by decide) rfl ⟨rfl, rfl⟩ ?_
  refine a_dup q81_19 rfl ?_
  refine a_aload_n (i := 0) q81_20 rfl rfl ?_
  refine a_getfield q81_21 rfl rfl ?_
  refine a_callI (as := [_]) q81_24 rfl rfl ⟨rfl, rfl⟩ (Or.inr ⟨rfl, rfl, rfl⟩) (c_X3_init (ck_v ?_))
  refine a_putfield q81_27 rfl rfl rfl rfl ?_
  refine AW.hp (h' := [.inl (7, [.ref 1, .ref 9, .null, .null, .null, .null, .int 0, .int 0]), .inl (5, [.ref 2, .ref 3, .ref 4, .ref 5, .ref 6, .ref 7, .ref 8, .int 0]), .inr (0, 240, .inl (fun _ => 0)), .inr (0, 6, .inl A3_0), .inr (0, 6, .inl A4_0), .inr (0, 6, .inl (fun _ => 0)), .inr (0, 6, .inl (fun _ => 0)), .inr (1, 6, .inr (.inl (fun _ => 0))), .inr (1, 6, .inr (.inl (fun _ => 0))), .inl (2, [.ref 1, .int 0, .int 45, .int 0])]) rfl ?_
  refine a_aload_n (i := 0) q81_30 rfl rfl ?_
  refine a_new (a := 1) (kn := 10) q81_31 rfl (by decide) rfl ⟨rfl, rfl⟩ ?_
  refine a_dup q81_34 rfl ?_
  refine a_aload_n (i := 0) q81_35 rfl rfl ?_
  refine a_getfield q81_36 rfl rfl ?_
  refine a_callI (as := [_]) q81_39 rfl rfl ⟨rfl, rfl⟩ (Or.inr ⟨rfl, rfl, rfl⟩) (c_X2_init (ck_v ?_))
  refine a_putfield q81_42 rfl rfl rfl rfl ?_
  refine AW.hp (h' := [.inl (7, [.ref 1, .ref 9, .ref 10, .null, .null, .null, .int 0, .int 0]), .inl (5, [.ref 2, .ref 3, .ref 4, .ref 5, .ref 6, .ref 7, .ref 8, .int 0]), .inr (0, 240, .inl (fun _ => 0)), .inr (0, 6, .inl A3_0), .inr (0, 6, .inl A4_0), .inr (0, 6, .inl (fun _ => 0)), .inr (0, 6, .inl (fun _ => 0)), .inr (1, 6, .inr (.inl (fun _ => 0))), .inr (1, 6, .inr (.inl (fun _ => 0))), .inl (2, [.ref 1, .int 0, .int 45, .int 0]), .inl (1, [.ref 1, .ref 11]), .inr (0, 8, .inl ro_w)]) rfl ?_
  refine a_aload_n (i := 0) q81_45 rfl rfl ?_
  refine a_new (a := 4) (kn := 12) q81_46 rfl (by decide) rfl ⟨rfl, rfl⟩ ?_
  refine a_dup q81_49 rfl ?_
  refine a_aload_n (i := 0) q81_50 rfl rfl ?_
  refine a_getfield q81_51 rfl rfl ?_
  refine a_aload_n (i := 0) q81_54 rfl rfl ?_
  refine a_getfield q81_55 rfl rfl ?_
  refine a_callI (as := [_, _]) q81_58 rfl rfl ⟨rfl, rfl⟩ (Or.inr ⟨rfl, rfl, rfl⟩) (c_X6_init (ck_v ?_))
  refine a_putfield q81_61 rfl rfl rfl rfl ?_
  refine AW.hp (h' := [.inl (7, [.ref 1, .ref 9, .ref 10, .ref 12, .null, .null, .int 0, .int 0]), .inl (5, [.ref 2, .ref 3, .ref 4, .ref 5, .ref 6, .ref 7, .ref 8, .int 0]), .inr (0, 240, .inl (fun _ => 0)), .inr (0, 6, .inl A3_0), .inr (0, 6, .inl A4_0), .inr (0, 6, .inl (fun _ => 0)), .inr (0, 6, .inl (fun _ => 0)), .inr (1, 6, .inr (.inl (fun _ => 0))), .inr (1, 6, .inr (.inl (fun _ => 0))), .inl (2, [.ref 1, .int 0, .int 45, .int 0]), .inl (1, [.ref 1, .ref 11]), .inr (0, 8, .inl ro_w), .inl (4, [.ref 9, .ref 10, .ref 13, .int 1]), .inl (0, [.ref 14, .int 0]), .inr (1, 5, .inr (.inl (fun _ => 0)))]) rfl ?_
  refine a_aload_n (i := 0) q81_64 rfl rfl ?_
  refine a_new (a := 6) (kn := 15) q81_65 rfl (by decide) rfl ⟨rfl, rfl⟩ ?_
  refine a_dup q81_68 rfl ?_
  refine a_aload_n (i := 0) q81_69 rfl rfl ?_
  refine a_getfield q81_70 rfl rfl ?_
  refine a_aload_n (i := 0) q81_73 rfl rfl ?_
  refine a_getfield q81_74 rfl rfl ?_
  refine a_callI (as := [_, _]) q81_77 rfl rfl ⟨rfl, rfl⟩ (Or.inr ⟨rfl, rfl, rfl⟩) (c_X8_init (ck_v ?_))
  refine a_putfield q81_80 rfl rfl rfl rfl ?_
  refine AW.hp (h' := [.inl (7, [.ref 1, .ref 9, .ref 10, .ref 12, .ref 15, .null, .int 0, .int 0]), .inl (5, [.ref 2, .ref 3, .ref 4, .ref 5, .ref 6, .ref 7, .ref 8, .int 0]), .inr (0, 240, .inl (fun _ => 0)), .inr (0, 6, .inl A3_0), .inr (0, 6, .inl A4_0), .inr (0, 6, .inl (fun _ => 0)), .inr (0, 6, .inl (fun _ => 0)), .inr (1, 6, .inr (.inl (fun _ => 0))), .inr (1, 6, .inr (.inl (fun _ => 0))), .inl (2, [.ref 1, .int 0, .int 45, .int 0]), .inl (1, [.ref 1, .ref 11]), .inr (0, 8, .inl ro_w), .inl (4, [.ref 9, .ref 10, .ref 13, .int 1]), .inl (0, [.ref 14, .int 0]), .inr (1, 5, .inr (.inl (fun _ => 0))), .inl (6, [.ref 9, .ref 10, .ref 16, .ref 18, .int 0, .int 0]), .inl (0, [.ref 17, .int 0]), .inr (1, 5, .inr (.inl (fun _ => 0))), .inr (0, 1045, .inl PLC)]) rfl ?_
  refine a_aload_n (i := 0) q81_83 rfl rfl ?_
  refine a_new (a := 3) (kn := 19) q81_84 rfl (by decide) rfl ⟨rfl, rfl⟩ ?_
  refine a_dup q81_87 rfl ?_
  refine a_callI (as := []) q81_88 rfl rfl ⟨rfl, rfl⟩ (Or.inr ⟨rfl, rfl, rfl⟩) (c_X4_init (ck_v ?_))
  refine a_putfield q81_91 rfl rfl rfl rfl ?_
  refine AW.hp (h' := [.inl (7, [.ref 1, .ref 9, .ref 10, .ref 12, .ref 15, .ref 19, .int 0, .int 0]), .inl (5, [.ref 2, .ref 3, .ref 4, .ref 5, .ref 6, .ref 7, .ref 8, .int 0]), .inr (0, 240, .inl (fun _ => 0)), .inr (0, 6, .inl A3_0), .inr (0, 6, .inl A4_0), .inr (0, 6, .inl (fun _ => 0)), .inr (0, 6, .inl (fun _ => 0)), .inr (1, 6, .inr (.inl (fun _ => 0))), .inr (1, 6, .inr (.inl (fun _ => 0))), .inl (2, [.ref 1, .int 0, .int 45, .int 0]), .inl (1, [.ref 1, .ref 11]), .inr (0, 8, .inl ro_w), .inl (4, [.ref 9, .ref 10, .ref 13, .int 1]), .inl (0, [.ref 14, .int 0]), .inr (1, 5, .inr (.inl (fun _ => 0))), .inl (6, [.ref 9, .ref 10, .ref 16, .ref 18, .int 0, .int 0]), .inl (0, [.ref 17, .int 0]), .inr (1, 5, .inr (.inl (fun _ => 0))), .inr (0, 1045, .inl PLC), .inl (3, [.ref 20, .int 0, .int (-1)]), .inr (0, 4, .inl (fun _ => 0))]) rfl ?_
  refine a_aload_n (i := 0) q81_94 rfl rfl ?_
  refine a_iconst (v := 3) q81_95 (by decide) ?_
  refine a_putfield q81_96 rfl rfl rfl rfl ?_
  refine AW.hp (h' := [.inl (7, [.ref 1, .ref 9, .ref 10, .ref 12, .ref 15, .ref 19, .int 3, .int 0]), .inl (5, [.ref 2, .ref 3, .ref 4, .ref 5, .ref 6, .ref 7, .ref 8, .int 0]), .inr (0, 240, .inl (fun _ => 0)), .inr (0, 6, .inl A3_0), .inr (0, 6, .inl A4_0), .inr (0, 6, .inl (fun _ => 0)), .inr (0, 6, .inl (fun _ => 0)), .inr (1, 6, .inr (.inl (fun _ => 0))), .inr (1, 6, .inr (.inl (fun _ => 0))), .inl (2, [.ref 1, .int 0, .int 45, .int 0]), .inl (1, [.ref 1, .ref 11]), .inr (0, 8, .inl ro_w), .inl (4, [.ref 9, .ref 10, .ref 13, .int 1]), .inl (0, [.ref 14, .int 0]), .inr (1, 5, .inr (.inl (fun _ => 0))), .inl (6, [.ref 9, .ref 10, .ref 16, .ref 18, .int 0, .int 0]), .inl (0, [.ref 17, .int 0]), .inr (1, 5, .inr (.inl (fun _ => 0))), .inr (0, 1045, .inl PLC), .inl (3, [.ref 20, .int 0, .int (-1)]), .inr (0, 4, .inl (fun _ => 0))]) rfl ?_
  refine a_aload_n (i := 0) q81_99 rfl rfl ?_
  refine a_bipush (v := 98) q81_100 (by decide) ?_
  refine a_iconst (v := 0) q81_102 (by decide) ?_
  refine a_cs2 q81_103 rfl ⟨rfl, rfl⟩ rfl ?_
  refine c_X1_bare ?_
  refine ck_r ?_
  refine a_putfield q81_106 rfl rfl rfl rfl ?_
  refine AW.hp (h' := [.inl (7, [.ref 1, .ref 9, .ref 10, .ref 12, .ref 15, .ref 19, .int 3, .int (g_bare 98 0)]), .inl (5, [.ref 2, .ref 3, .ref 4, .ref 5, .ref 6, .ref 7, .ref 8, .int 0]), .inr (0, 240, .inl (fun _ => 0)), .inr (0, 6, .inl A3_0), .inr (0, 6, .inl A4_0), .inr (0, 6, .inl (fun _ => 0)), .inr (0, 6, .inl (fun _ => 0)), .inr (1, 6, .inr (.inl (fun _ => 0))), .inr (1, 6, .inr (.inl (fun _ => 0))), .inl (2, [.ref 1, .int 0, .int 45, .int 0]), .inl (1, [.ref 1, .ref 11]), .inr (0, 8, .inl ro_w), .inl (4, [.ref 9, .ref 10, .ref 13, .int 1]), .inl (0, [.ref 14, .int 0]), .inr (1, 5, .inr (.inl (fun _ => 0))), .inl (6, [.ref 9, .ref 10, .ref 16, .ref 18, .int 0, .int 0]), .inl (0, [.ref 17, .int 0]), .inr (1, 5, .inr (.inl (fun _ => 0))), .inr (0, 1045, .inl PLC), .inl (3, [.ref 20, .int 0, .int (-1)]), .inr (0, 4, .inl (fun _ => 0))]) rfl ?_
  refine a_return q81_109 rfl ?_
  exact hq
