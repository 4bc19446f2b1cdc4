/-! constructors of the class -/
def A3_0 : Nat → Int32 := (upd (upd (upd (upd (upd (upd (fun _ => 0) 0 (-1)) 1 (-1)) 2 (-1)) 3 (-1)) 4 (-1)) 5 (-1))
def A4_0 : Nat → Int32 := (upd (upd (upd (upd (upd (upd (fun _ => 0) 0 0) 1 0) 2 0) 3 0) 4 0) 5 0)
theorem c_X7_init {X : XS} {Q : AO → AH → Prop}  (hq : Q (.inl none) [.inl (7, dfl 7), .inl (5, [.ref 2, .ref 3, .ref 4, .ref 5, .ref 6, .ref 7, .ref 8, .int 0]), .inr (0, 240, .inl (fun _ => 0)), .inr (0, 6, .inl A3_0), .inr (0, 6, .inl A4_0), .inr (0, 6, .inl (fun _ => 0)), .inr (0, 6, .inl (fun _ => 0)), .inr (1, 6, .inr (.inl (fun _ => 0))), .inr (1, 6, .inr (.inl (fun _ => 0)))]) : Call X 52 [.ref 1] [.inl (7, dfl 7), .inl (5, dfl 5)] Q := by
  refine call_of (by decide) rfl rfl ?_
  refine a_aload_n (i := 0) q52_0 rfl rfl ?_
  refine a_objInit q52_1 rfl ?_
  refine a_aload_n (i := 0) q52_4 rfl rfl ?_
  refine a_sipush (v := 240) q52_5 (by decide) ?_
  refine a_newarray (a := 0) (kn := 2) (N := 240) q52_8 (by decide) rfl (by decide) rfl (by decide) rfl ⟨rfl, rfl⟩ ?_
  refine a_putfield q52_10 rfl rfl rfl rfl ?_
  refine AW.hp (h' := [.inl (7, dfl 7), .inl (5, [.ref 2, .null, .null, .null, .null, .null, .null, .int 0]), .inr (0, 240, .inl (fun _ => 0))]) rfl ?_
  refine a_aload_n (i := 0) q52_13 rfl rfl ?_
  refine a_bipush (v := 6) q52_14 (by decide) ?_
  refine a_newarray (a := 0) (kn := 3) (N := 6) q52_16 (by decide) rfl (by decide) rfl (by decide) rfl ⟨rfl, rfl⟩ ?_
  refine a_putfield q52_18 rfl rfl rfl rfl ?_
  refine AW.hp (h' := [.inl (7, dfl 7), .inl (5, [.ref 2, .ref 3, .null, .null, .null, .null, .null, .int 0]), .inr (0, 240, .inl (fun _ => 0)), .inr (0, 6, .inl (fun _ => 0))]) rfl ?_
  refine a_aload_n (i := 0) q52_21 rfl rfl ?_
  refine a_bipush (v := 6) q52_22 (by decide) ?_
  refine a_newarray (a := 0) (kn := 4) (N := 6) q52_24 (by decide) rfl (by decide) rfl (by decide) rfl ⟨rfl, rfl⟩ ?_
  refine a_putfield q52_26 rfl rfl rfl rfl ?_
  refine AW.hp (h' := [.inl (7, dfl 7), .inl (5, [.ref 2, .ref 3, .ref 4, .null, .null, .null, .null, .int 0]), .inr (0, 240, .inl (fun _ => 0)), .inr (0, 6, .inl (fun _ => 0)), .inr (0, 6, .inl (fun _ => 0))]) rfl ?_
  refine a_aload_n (i := 0) q52_29 rfl rfl ?_
  refine a_bipush (v := 6) q52_30 (by decide) ?_
  refine a_newarray (a := 0) (kn := 5) (N := 6) q52_32 (by decide) rfl (by decide) rfl (by decide) rfl ⟨rfl, rfl⟩ ?_
  refine a_putfield q52_34 rfl rfl rfl rfl ?_
  refine AW.hp (h' := [.inl (7, dfl 7), .inl (5, [.ref 2, .ref 3, .ref 4, .ref 5, .null, .null, .null, .int 0]), .inr (0, 240, .inl (fun _ => 0)), .inr (0, 6, .inl (fun _ => 0)), .inr (0, 6, .inl (fun _ => 0)), .inr (0, 6, .inl (fun _ => 0))]) rfl ?_
  refine a_aload_n (i := 0) q52_37 rfl rfl ?_
  refine a_bipush (v := 6) q52_38 (by decide) ?_
  refine a_newarray (a := 0) (kn := 6) (N := 6) q52_40 (by decide) rfl (by decide) rfl (by decide) rfl ⟨rfl, rfl⟩ ?_
  refine a_putfield q52_42 rfl rfl rfl rfl ?_
  refine AW.hp (h' := [.inl (7, dfl 7), .inl (5, [.ref 2, .ref 3, .ref 4, .ref 5, .ref 6, .null, .null, .int 0]), .inr (0, 240, .inl (fun _ => 0)), .inr (0, 6, .inl (fun _ => 0)), .inr (0, 6, .inl (fun _ => 0)), .inr (0, 6, .inl (fun _ => 0)), .inr (0, 6, .inl (fun _ => 0))]) rfl ?_
  refine a_aload_n (i := 0) q52_45 rfl rfl ?_
  refine a_bipush (v := 6) q52_46 (by decide) ?_
  refine a_newarray (a := 1) (kn := 7) (N := 6) q52_48 (by decide) rfl (by decide) rfl (by decide) rfl ⟨rfl, rfl⟩ ?_
  refine a_putfield q52_50 rfl rfl rfl rfl ?_
  refine AW.hp (h' := [.inl (7, dfl 7), .inl (5, [.ref 2, .ref 3, .ref 4, .ref 5, .ref 6, .ref 7, .null, .int 0]), .inr (0, 240, .inl (fun _ => 0)), .inr (0, 6, .inl (fun _ => 0)), .inr (0, 6, .inl (fun _ => 0)), .inr (0, 6, .inl (fun _ => 0)), .inr (0, 6, .inl (fun _ => 0)), .inr (1, 6, .inr (.inl (fun _ => 0)))]) rfl ?_
  refine a_aload_n (i := 0) q52_53 rfl rfl ?_
  refine a_bipush (v := 6) q52_54 (by decide) ?_
  refine a_newarray (a := 1) (kn := 8) (N := 6) q52_56 (by decide) rfl (by decide) rfl (by decide) rfl ⟨rfl, rfl⟩ ?_
  refine a_putfield q52_58 rfl rfl rfl rfl ?_
  refine AW.hp (h' := [.inl (7, dfl 7), .inl (5, [.ref 2, .ref 3, .ref 4, .ref 5, .ref 6, .ref 7, .ref 8, .int 0]), .inr (0, 240, .inl (fun _ => 0)), .inr (0, 6, .inl (fun _ => 0)), .inr (0, 6, .inl (fun _ => 0)), .inr (0, 6, .inl (fun _ => 0)), .inr (0, 6, .inl (fun _ => 0)), .inr (1, 6, .inr (.inl (fun _ => 0))), .inr (1, 6, .inr (.inl (fun _ => 0)))]) rfl ?_
  refine a_iconst (v := 0) q52_61 (by decide) ?_
  refine a_istore_n (i := 1) (lv' := [(0, _), (1, _)]) q52_62 rfl rfl rfl ?_
  refine a_iload_n (i := 1) q52_63 rfl rfl ?_
  refine a_bipush (v := 6) q52_64 (by decide) ?_
  refine a_icmp_ge (tgt := 89) q52_66 (by decide) (fun zc66 => absurd zc66 (by decide)) (fun zc66 => ?_)
  refine a_aload_n (i := 0) q52_69 rfl rfl ?_
  refine a_getfield q52_70 rfl rfl ?_
  refine a_iload_n (i := 1) q52_73 rfl rfl ?_
  refine a_iconst (v := (-1)) q52_74 (by decide) ?_
  refine a_iast' q52_75 rfl (j := 0) rfl (by decide) (by decide) (h' := [.inl (7, dfl 7), .inl (5, [.ref 2, .ref 3, .ref 4, .ref 5, .ref 6, .ref 7, .ref 8, .int 0]), .inr (0, 240, .inl (fun _ => 0)), .inr (0, 6, .inl (upd (fun _ => 0) 0 (-1))), .inr (0, 6, .inl (fun _ => 0)), .inr (0, 6, .inl (fun _ => 0)), .inr (0, 6, .inl (fun _ => 0)), .inr (1, 6, .inr (.inl (fun _ => 0))), .inr (1, 6, .inr (.inl (fun _ => 0)))]) rfl ?_
  refine a_aload_n (i := 0) q52_76 rfl rfl ?_
  refine a_getfield q52_77 rfl rfl ?_
  refine a_iload_n (i := 1) q52_80 rfl rfl ?_
  refine a_iconst (v := 0) q52_81 (by decide) ?_
  refine a_iast' q52_82 rfl (j := 0) rfl (by decide) (by decide) (h' := [.inl (7, dfl 7), .inl (5, [.ref 2, .ref 3, .ref 4, .ref 5, .ref 6, .ref 7, .ref 8, .int 0]), .inr (0, 240, .inl (fun _ => 0)), .inr (0, 6, .inl (upd (fun _ => 0) 0 (-1))), .inr (0, 6, .inl (upd (fun _ => 0) 0 0)), .inr (0, 6, .inl (fun _ => 0)), .inr (0, 6, .inl (fun _ => 0)), .inr (1, 6, .inr (.inl (fun _ => 0))), .inr (1, 6, .inr (.inl (fun _ => 0)))]) rfl ?_
  refine a_iinc (lv' := [(0, _), (1, _)]) q52_83 rfl rfl rfl rfl ?_
  refine a_goto (tgt := 63) q52_86 (by decide) ?_
  refine a_iload_n (i := 1) q52_63 rfl rfl ?_
  refine a_bipush (v := 6) q52_64 (by decide) ?_
  refine a_icmp_ge (tgt := 89) q52_66 (by decide) (fun zc66_1 => absurd zc66_1 (by decide)) (fun zc66_1 => ?_)
  refine a_aload_n (i := 0) q52_69 rfl rfl ?_
  refine a_getfield q52_70 rfl rfl ?_
  refine a_iload_n (i := 1) q52_73 rfl rfl ?_
  refine a_iconst (v := (-1)) q52_74 (by decide) ?_
  refine a_iast' q52_75 rfl (j := 1) rfl (by decide) (by decide) (h' := [.inl (7, dfl 7), .inl (5, [.ref 2, .ref 3, .ref 4, .ref 5, .ref 6, .ref 7, .ref 8, .int 0]), .inr (0, 240, .inl (fun _ => 0)), .inr (0, 6, .inl (upd (upd (fun _ => 0) 0 (-1)) 1 (-1))), .inr (0, 6, .inl (upd (fun _ => 0) 0 0)), .inr (0, 6, .inl (fun _ => 0)), .inr (0, 6, .inl (fun _ => 0)), .inr (1, 6, .inr (.inl (fun _ => 0))), .inr (1, 6, .inr (.inl (fun _ => 0)))]) rfl ?_
  refine a_aload_n (i := 0) q52_76 rfl rfl ?_
  refine a_getfield q52_77 rfl rfl ?_
  refine a_iload_n (i := 1) q52_80 rfl rfl ?_
  refine a_iconst (v := 0) q52_81 (by decide) ?_
  refine a_iast' q52_82 rfl (j := 1) rfl (by decide) (by decide) (h' := [.inl (7, dfl 7), .inl (5, [.ref 2, .ref 3, .ref 4, .ref 5, .ref 6, .ref 7, .ref 8, .int 0]), .inr (0, 240, .inl (fun _ => 0)), .inr (0, 6, .inl (upd (upd (fun _ => 0) 0 (-1)) 1 (-1))), .inr (0, 6, .inl (upd (upd (fun _ => 0) 0 0) 1 0)), .inr (0, 6, .inl (fun _ => 0)), .inr (0, 6, .inl (fun _ => 0)), .inr (1, 6, .inr (.inl (fun _ => 0))), .inr (1, 6, .inr (.inl (fun _ => 0)))]) rfl ?_
  refine a_iinc (lv' := [(0, _), (1, _)]) q52_83 rfl rfl rfl rfl ?_
  refine a_goto (tgt := 63) q52_86 (by decide) ?_
  refine a_iload_n (i := 1) q52_63 rfl rfl ?_
  refine a_bipush (v := 6) q52_64 (by decide) ?_
  refine a_icmp_ge (tgt := 89) q52_66 (by decide) (fun zc66_2 => absurd zc66_2 (by decide)) (fun zc66_2 => ?_)
  refine a_aload_n (i := 0) q52_69 rfl rfl ?_
  refine a_getfield q52_70 rfl rfl ?_
  refine a_iload_n (i := 1) q52_73 rfl rfl ?_
  refine a_iconst (v := (-1)) q52_74 (by decide) ?_
  refine a_iast' q52_75 rfl (j := 2) rfl (by decide) (by decide) (h' := [.inl (7, dfl 7), .inl (5, [.ref 2, .ref 3, .ref 4, .ref 5, .ref 6, .ref 7, .ref 8, .int 0]), .inr (0, 240, .inl (fun _ => 0)), .inr (0, 6, .inl (upd (upd (upd (fun _ => 0) 0 (-1)) 1 (-1)) 2 (-1))), .inr (0, 6, .inl (upd (upd (fun _ => 0) 0 0) 1 0)), .inr (0, 6, .inl (fun _ => 0)), .inr (0, 6, .inl (fun _ => 0)), .inr (1, 6, .inr (.inl (fun _ => 0))), .inr (1, 6, .inr (.inl (fun _ => 0)))]) rfl ?_
  refine a_aload_n (i := 0) q52_76 rfl rfl ?_
  refine a_getfield q52_77 rfl rfl ?_
  refine a_iload_n (i := 1) q52_80 rfl rfl ?_
  refine a_iconst (v := 0) q52_81 (by decide) ?_
  refine a_iast' q52_82 rfl (j := 2) rfl (by decide) (by decide) (h' := [.inl (7, dfl 7), .inl (5, [.ref 2, .ref 3, .ref 4, .ref 5, .ref 6, .ref 7, .ref 8, .int 0]), .inr (0, 240, .inl (fun _ => 0)), .inr (0, 6, .inl (upd (upd (upd (fun _ => 0) 0 (-1)) 1 (-1)) 2 (-1))), .inr (0, 6, .inl (upd (upd (upd (fun _ => 0) 0 0) 1 0) 2 0)), .inr (0, 6, .inl (fun _ => 0)), .inr (0, 6, .inl (fun _ => 0)), .inr (1, 6, .inr (.inl (fun _ => 0))), .inr (1, 6, .inr (.inl (fun _ => 0)))]) rfl ?_
  refine a_iinc (lv' := [(0, _), (1, _)]) q52_83 rfl rfl rfl rfl ?_
  refine a_goto (tgt := 63) q52_86 (by decide) ?_
  refine a_iload_n (i := 1) q52_63 rfl rfl ?_
  refine a_bipush (v := 6) q52_64 (by decide) ?_
  refine a_icmp_ge (tgt := 89) q52_66 (by decide) (fun zc66_3 => absurd zc66_3 (by decide)) (fun zc66_3 => ?_)
  refine a_aload_n (i := 0) q52_69 rfl rfl ?_
  refine a_getfield q52_70 rfl rfl ?_
  refine a_iload_n (i := 1) q52_73 rfl rfl ?_
  refine a_iconst (v := (-1)) q52_74 (by decide) ?_
  refine a_iast' q52_75 rfl (j := 3) rfl (by decide) (by decide) (h' := [.inl (7, dfl 7), .inl (5, [.ref 2, .ref 3, .ref 4, .ref 5, .ref 6, .ref 7, .ref 8, .int 0]), .inr (0, 240, .inl (fun _ => 0)), .inr (0, 6, .inl (upd (upd (upd (upd (fun _ => 0) 0 (-1)) 1 (-1)) 2 (-1)) 3 (-1))), .inr (0, 6, .inl (upd (upd (upd (fun _ => 0) 0 0) 1 0) 2 0)), .inr (0, 6, .inl (fun _ => 0)), .inr (0, 6, .inl (fun _ => 0)), .inr (1, 6, .inr (.inl (fun _ => 0))), .inr (1, 6, .inr (.inl (fun _ => 0)))]) rfl ?_
  refine a_aload_n (i := 0) q52_76 rfl rfl ?_
  refine a_getfield q52_77 rfl rfl ?_
  refine a_iload_n (i := 1) q52_80 rfl rfl ?_
  refine a_iconst (v := 0) q52_81 (by decide) ?_
  refine a_iast' q52_82 rfl (j := 3) rfl (by decide) (by decide) (h' := [.inl (7, dfl 7), .inl (5, [.ref 2, .ref 3, .ref 4, .ref 5, .ref 6, .ref 7, .ref 8, .int 0]), .inr (0, 240, .inl (fun _ => 0)), .inr (0, 6, .inl (upd (upd (upd (upd (fun _ => 0) 0 (-1)) 1 (-1)) 2 (-1)) 3 (-1))), .inr (0, 6, .inl (upd (upd (upd (upd (fun _ => 0) 0 0) 1 0) 2 0) 3 0)), .inr (0, 6, .inl (fun _ => 0)), .inr (0, 6, .inl (fun _ => 0)), .inr (1, 6, .inr (.inl (fun _ => 0))), .inr (1, 6, .inr (.inl (fun _ => 0)))]) rfl ?_
  refine a_iinc (lv' := [(0, _), (1, _)]) q52_83 rfl rfl rfl rfl ?_
  refine a_goto (tgt := 63) q52_86 (by decide) ?_
  refine a_iload_n (i := 1) q52_63 rfl rfl ?_
  refine a_bipush (v := 6) q52_64 (by decide) ?_
  refine a_icmp_ge (tgt := 89) q52_66 (by decide) (fun zc66_4 => absurd zc66_4 (by decide)) (fun zc66_4 => ?_)
  refine a_aload_n (i := 0) q52_69 rfl rfl ?_
  refine a_getfield q52_70 rfl rfl ?_
  refine a_iload_n (i := 1) q52_73 rfl rfl ?_
  refine a_iconst (v := (-1)) q52_74 (by decide) ?_
  refine a_iast' q52_75 rfl (j := 4) rfl (by decide) (by decide) (h' := [.inl (7, dfl 7), .inl (5, [.ref 2, .ref 3, .ref 4, .ref 5, .ref 6, .ref 7, .ref 8, .int 0]), .inr (0, 240, .inl (fun _ => 0)), .inr (0, 6, .inl (upd (upd (upd (upd (upd (fun _ => 0) 0 (-1)) 1 (-1)) 2 (-1)) 3 (-1)) 4 (-1))), .inr (0, 6, .inl (upd (upd (upd (upd (fun _ => 0) 0 0) 1 0) 2 0) 3 0)), .inr (0, 6, .inl (fun _ => 0)), .inr (0, 6, .inl (fun _ => 0)), .inr (1, 6, .inr (.inl (fun _ => 0))), .inr (1, 6, .inr (.inl (fun _ => 0)))]) rfl ?_
  refine a_aload_n (i := 0) q52_76 rfl rfl ?_
  refine a_getfield q52_77 rfl rfl ?_
  refine a_iload_n (i := 1) q52_80 rfl rfl ?_
  refine a_iconst (v := 0) q52_81 (by decide) ?_
  refine a_iast' q52_82 rfl (j := 4) rfl (by decide) (by decide) (h' := [.inl (7, dfl 7), .inl (5, [.ref 2, .ref 3, .ref 4, .ref 5, .ref 6, .ref 7, .ref 8, .int 0]), .inr (0, 240, .inl (fun _ => 0)), .inr (0, 6, .inl (upd (upd (upd (upd (upd (fun _ => 0) 0 (-1)) 1 (-1)) 2 (-1)) 3 (-1)) 4 (-1))), .inr (0, 6, .inl (upd (upd (upd (upd (upd (fun _ => 0) 0 0) 1 0) 2 0) 3 0) 4 0)), .inr (0, 6, .inl (fun _ => 0)), .inr (0, 6, .inl (fun _ => 0)), .inr (1, 6, .inr (.inl (fun _ => 0))), .inr (1, 6, .inr (.inl (fun _ => 0)))]) rfl ?_
  refine a_iinc (lv' := [(0, _), (1, _)]) q52_83 rfl rfl rfl rfl ?_
  refine a_goto (tgt := 63) q52_86 (by decide) ?_
  refine a_iload_n (i := 1) q52_63 rfl rfl ?_
  refine a_bipush (v := 6) q52_64 (by decide) ?_
  refine a_icmp_ge (tgt := 89) q52_66 (by decide) (fun zc66_5 => absurd zc66_5 (by decide)) (fun zc66_5 => ?_)
  refine a_aload_n (i := 0) q52_69 rfl rfl ?_
  refine a_getfield q52_70 rfl rfl ?_
  refine a_iload_n (i := 1) q52_73 rfl rfl ?_
  refine a_iconst (v := (-1)) q52_74 (by decide) ?_
  refine a_iast' q52_75 rfl (j := 5) rfl (by decide) (by decide) (h' := [.inl (7, dfl 7), .inl (5, [.ref 2, .ref 3, .ref 4, .ref 5, .ref 6, .ref 7, .ref 8, .int 0]), .inr (0, 240, .inl (fun _ => 0)), .inr (0, 6, .inl (upd (upd (upd (upd (upd (upd (fun _ => 0) 0 (-1)) 1 (-1)) 2 (-1)) 3 (-1)) 4 (-1)) 5 (-1))), .inr (0, 6, .inl (upd (upd (upd (upd (upd (fun _ => 0) 0 0) 1 0) 2 0) 3 0) 4 0)), .inr (0, 6, .inl (fun _ => 0)), .inr (0, 6, .inl (fun _ => 0)), .inr (1, 6, .inr (.inl (fun _ => 0))), .inr (1, 6, .inr (.inl (fun _ => 0)))]) rfl ?_
  refine a_aload_n (i := 0) q52_76 rfl rfl ?_
  refine a_getfield q52_77 rfl rfl ?_
  refine a_iload_n (i := 1) q52_80 rfl rfl ?_
  refine a_iconst (v := 0) q52_81 (by decide) ?_
  refine a_iast' q52_82 rfl (j := 5) rfl (by decide) (by decide) (h' := [.inl (7, dfl 7), .inl (5, [.ref 2, .ref 3, .ref 4, .ref 5, .ref 6, .ref 7, .ref 8, .int 0]), .inr (0, 240, .inl (fun _ => 0)), .inr (0, 6, .inl (upd (upd (upd (upd (upd (upd (fun _ => 0) 0 (-1)) 1 (-1)) 2 (-1)) 3 (-1)) 4 (-1)) 5 (-1))), .inr (0, 6, .inl (upd (upd (upd (upd (upd (upd (fun _ => 0) 0 0) 1 0) 2 0) 3 0) 4 0) 5 0)), .inr (0, 6, .inl (fun _ => 0)), .inr (0, 6, .inl (fun _ => 0)), .inr (1, 6, .inr (.inl (fun _ => 0))), .inr (1, 6, .inr (.inl (fun _ => 0)))]) rfl ?_
  refine a_iinc (lv' := [(0, _), (1, _)]) q52_83 rfl rfl rfl rfl ?_
  refine a_goto (tgt := 63) q52_86 (by decide) ?_
  refine a_iload_n (i := 1) q52_63 rfl rfl ?_
  refine a_bipush (v := 6) q52_64 (by decide) ?_
  refine a_icmp_ge (tgt := 89) q52_66 (by decide) (fun zc66_6 => ?_) (fun zc66_6 => absurd (by decide) zc66_6)
  refine a_return q52_89 rfl ?_
  exact hq
