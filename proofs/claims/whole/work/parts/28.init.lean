/-! constructors of the class -/
def A3_0 : Nat → Int32 := (upd (upd (upd (upd (upd (upd (fun _ => 0) 0 (-1)) 1 (-1)) 2 (-1)) 3 (-1)) 4 (-1)) 5 (-1))
def A4_0 : Nat → Int32 := (upd (upd (upd (upd (upd (upd (fun _ => 0) 0 0) 1 0) 2 0) 3 0) 4 0) 5 0)
theorem c_X7_init {X : XS} {Q : AO → AH → Prop}  (hq : Q (.inl none) [.inl (7, dfl 7), .inl (5, [.ref 2, .ref 3, .ref 4, .ref 5, .ref 6, .ref 7, .ref 8, .int 0]), .inr (0, 240, .inl (fun _ => 0)), .inr (0, 6, .inl A3_0), .inr (0, 6, .inl A4_0), .inr (0, 6, .inl (fun _ => 0)), .inr (0, 6, .inl (fun _ => 0)), .inr (1, 6, .inr (.inl (fun _ => 0))), .inr (1, 6, .inr (.inl (fun _ => 0)))]) : Call X 52 [.ref 1] [.inl (7, dfl 7), .inl (5, dfl 5)] Q := by
  refine call_of (by decide) rfl rfl ?_
  refine a_aload_n (i := 0) q52_0 rfl rfl ?_
  refine a_objInit q52_1 rfl ?_
  refine a_aload_n (i := 0) q52_4 rfl rfl ?_
  refine a_sipush (v := 240) q52_5 (by decide) ?_
  refine a_newarray (a := 0) (kn := 2) (N := 240) q52_8 (by decide) rfl (by decide) rfl (by decide) rfl ⟨rfl, rfl⟩ ?_
  refine a_putfield q52_10 rfl rfl rfl rfl ?_
  refine AW.hp (h' := [.inl (7, dfl 7), .inl (5, [.ref 2, .null, .null, .null, .null, .null, .null, .int 0]), .inr (0, 240, .inl (fun _ => 0))]) rfl ?_
  refine a_aload_n (i := 0) q52_13 rfl rfl ?_
  refine a_bipush (v := 6) q52_14 (by decide) ?_
  refine a_newarray (a := 0) (kn := 3) (N := 6) q52_16 (by decide) rfl (by decide) rfl (by decide) rfl ⟨rfl, rfl⟩ ?_
  refine a_putfield q52_18 rfl rfl rfl rfl ?_
  refine AW.hp (h' := [.inl (7, dfl 7), .inl (5, [.ref 2, .ref 3, .null, .null, .null, .null, .null, .int 0]), .inr (0, 240, .inl (fun _ => 0)), .inr (0, 6, .inl (fun _ => 0))]) rfl ?_
  refine a_aload_n (i := 0) q52_21 rfl rfl ?_
  refine a_bipush (v := 6) q52_22 (by decide) ?_
  refine a_newarray (a := 0) (kn := 4) (N := 6) q52_24 (by decide) rfl (by decide) rfl (by decide) rfl ⟨rfl, rfl⟩ ?_
  refine a_putfield q52_26 rfl rfl rfl rfl ?_
  refine AW.hp (h' := [.inl (7, dfl 7), .inl (5, [.ref 2, .ref 3, .ref 4, .null, .null, .null, .null, .int 0]), .inr (0, 240, .inl (fun _ => 0)), .inr (0, 6, .inl (fun _ => 0)), .inr (0, 6, .inl (fun _ => 0))]) rfl ?_
  refine a_aload_n (i := 0) q52_29 rfl rfl ?_
  refine a_bipush (v := 6) q52_30 (by decide) ?_
  refine a_newarray (a := 0) (kn := 5) (N := 6) q52_32 (by decide) rfl (by decide) rfl (by decide) rfl ⟨rfl, rfl⟩ ?_
  refine a_putfield q52_34 rfl rfl rfl rfl ?_
  refine AW.hp (h' := [.inl (7, dfl 7), .inl (5, [.ref 2, .ref 3, .ref 4, .ref 5, .null, .null, .null, .int 0]), .inr (0, 240, .inl (fun _ => 0)), .inr (0, 6, .inl (fun _ => 0)), .inr (0, 6, .inl (fun _ => 0)), .inr (0, 6, .inl (fun _ => 0))]) rfl ?_
  refine a_aload_n (i := 0) q52_37 rfl rfl ?_
  refine a_bipush (v := 6) q52_38 (by decide) ?_
  refine a_newarray (a := 0) (kn := 6) (N := 6) q52_40 (by decide) rfl (by decide) rfl (by decide) rfl ⟨rfl, rfl⟩ ?_
  refine a_putfield q52_42 rfl rfl rfl rfl ?_
  refine AW.hp (h' := [.inl (7, dfl 7), .inl (5, [.ref 2, .ref 3, .ref 4, .ref 5, .ref 6, .null, .null, .int 0]), .inr (0, 240, .inl (fun _ => 0)), .inr (0, 6, .inl (fun _ => 0)), .inr (0, 6, .inl (fun _ => 0)), .inr (0, 6, .inl (fun _ => 0)), .inr (0, 6, .inl (fun _ => 0))]) rfl ?_
  refine a_aload_n (i := 0) q52_45 rfl rfl ?_
  refine a_bipush (v := 6) q52_46 (by decide) ?_
  refine a_newarray (a := 1) (kn := 7) (N := 6) q52_48 (by decide) rfl (by decide) rfl (by decide) rfl ⟨rfl, rfl⟩ ?_
  refine a_putfield q52_50 rfl rfl rfl rfl ?_
  refine AW.hp (h' := [.inl (7, dfl 7), .inl (5, [.ref 2, .ref 3, .ref 4, .ref 5, .ref 6, .ref 7, .null, .int 0]), .inr (0, 240, .inl (fun _ => 0)), .inr (0, 6, .inl (fun _ => 0)), .inr (0, 6, .inl (fun _ => 0)), .inr (0, 6, .inl (fun _ => 0)), .inr (0, 6, .inl (fun _ => 0)), .inr (1, 6, .inr (.inl (fun _ => 0)))]) rfl ?_
  refine a_aload_n (i := 0) q52_53 rfl rfl ?_
  refine a_bipush (v := 6) q52_54 (by decide) ?_
  refine a_newarray (a := 1) (kn := 8) (N := 6) q52_56 (by decide) rfl (by decide) rfl (by decide) rfl ⟨rfl, rfl⟩ ?_
  refine a_putfield q52_58 rfl rfl rfl rfl ?_
  refine AW.hp (h' := [.inl (7, dfl 7), .inl (5, [.ref 2, .ref 3, .ref 4, .ref 5, .ref 6, .ref 7, .ref 8, .int 0]), .inr (0, 240, .inl (fun _ => 0)), .inr (0, 6, .inl (fun _ => 0)), .inr (0, 6, .inl (fun _ => 0)), .inr (0, 6, .inl (fun _ => 0)), .inr (0, 6, .inl (fun _ => 0)), .inr (1, 6, .inr (.inl (fun _ => 0))), .inr (1, 6, .inr (.inl (fun _ => 0)))]) rfl ?_
  refine a_iconst (v := 0) q52_61 (by decide) ?_
  refine a_istore_n (i := 1) (lv' := [(0, _), (1, _)]) q52_62 rfl rfl rfl ?_
  refine a_iload_n (i := 1) q52_63 rfl rfl ?_
  refine a_bipush (v := 6) q52_64 (by decide) ?_
  refine a_icmp_ge (tgt := 89) q52_66 (by decide) (fun zc66 => absurd zc66 (by decide)) (fun zc66 => ?_)
  refine a_aload_n (i := 0) q52_69 rfl rfl ?_
  refine a_getfield q52_70 rfl rfl ?_
  refine a_iload_n (i := 1) q52_73 rfl rfl ?_
  refine a_iconst (v := (-1)) q52_74 (by decide) ?_
  refine a_iast' q52_75 rfl (j := 0) rfl (by decide) (by decide) (h' := [.inl (7, dfl 7), .inl (5, [.ref 2, .ref 3, .ref 4, .ref 5, .ref 6, .ref 7, .ref 8, .int 0]), .inr (0, 240, .inl (fun _ => 0)), .inr (0, 6, .inl (upd (fun _ => 0) 0 (-1))), .inr (0, 6, .inl (fun _ => 0)), .inr (0, 6, .inl (fun _ => 0)), .inr (0, 6, .inl (fun _ => 0)), .inr (1, 6, .inr (.inl (fun _ => 0))), .inr (1, 6, .inr (.inl (fun _ => 0)))]) rfl ?_
  refine a_aload_n (i := 0) q52_76 rfl rfl ?_
  refine a_getfield q52_77 rfl rfl ?_
  refine a_iload_n (i := 1) q52_80 rfl rfl ?_
  refine a_iconst (v := 0) q52_81 (by decide) ?_
  refine a_iast' q52_82 rfl (j := 0) rfl (by decide) (by decide) (h' := [.inl (7, dfl 7), .inl (5, [.ref 2, .ref 3, .ref 4, .ref 5, .ref 6, .ref 7, .ref 8, .int 0]), .inr (0, 240, .inl (fun _ => 0)), .inr (0, 6, .inl (upd (fun _ => 0) 0 (-1))), .inr (0, 6, .inl (upd (fun _ => 0) 0 0)), .inr (0, 6, .inl (fun _ => 0)), .inr (0, 6, .inl (fun _ => 0)), .inr (1, 6, .inr (.inl (fun _ => 0))), .inr (1, 6, .inr (.inl (fun _ => 0)))]) rfl ?_
  refine a_iinc (lv' := [(0, _), (1, _)]) q52_83 rfl rfl rfl rfl ?_
  refine a_goto (tgt := 63) q52_86 (by decide) ?_
  refine a_iload_n (i := 1) q52_63 rfl rfl ?_
  refine a_bipush (v := 6) q52_64 (by decide) ?_
  refine a_icmp_ge (tgt := 89) q52_66 (by decide) (fun zc66_1 => absurd zc66_1 (by decide)) (fun zc66_1 => ?_)
  refine a_aload_n (i := 0) q52_69 rfl rfl ?_
  refine a_getfield q52_70 rfl rfl ?_
  refine a_iload_n (i := 1) q52_73 rfl rfl ?_
  refine a_iconst (v := (-1)) q52_74 (by decide) ?_
  refine a_iast' q52_75 rfl (j := 1) rfl (by decide) (by decide) (h' := [.inl (7, dfl 7), .inl (5, [.ref 2, .ref 3, .ref 4, .ref 5, .ref 6, .ref 7, .ref 8, .int 0]), .inr (0, 240, .inl (fun _ => 0)), .inr (0, 6, .inl (upd (upd (fun _ => 0) 0 (-1)) 1 (-1))), .inr (0, 6, .inl (upd (fun _ => 0) 0 0)), .inr (0, 6, .inl (fun _ => 0)), .inr (0, 6, .inl (fun _ => 0)), .inr (1, 6, .inr (.inl (fun _ => 0))), .inr (1, 6, .inr (.inl (fun _ => 0)))]) rfl ?_
  refine a_aload_n (i := 0) q52_76 rfl rfl ?_
  refine a_getfield q52_77 rfl rfl ?_
  refine a_iload_n (i := 1) q52_80 rfl rfl ?_
  refine a_iconst (v := 0) q52_81 (by decide) ?_
  refine a_iast' q52_82 rfl (j := 1) rfl (by decide) (by decide) (h' := [.inl (7, dfl 7), .inl (5, [.ref 2, .ref 3, .ref 4, .ref 5, .ref 6, .ref 7, .ref 8, .int 0]), .inr (0, 240, .inl (fun _ => 0)), .inr (0, 6, .inl (upd (upd (fun _ => 0) 0 (-1)) 1 (-1))), .inr (0, 6, .inl (upd (upd (fun _ => 0) 0 0) 1 0)), .inr (0, 6, .inl (fun _ => 0)), .inr (0, 6, .inl (fun _ => 0)), .inr (1, 6, .inr (.inl (fun _ => 0))), .inr (1, 6, .inr (.inl (fun _ => 0)))]) rfl ?_
  refine a_iinc (lv' := [(0, _), (1, _)]) q52_83 rfl rfl rfl rfl ?_
  refine a_goto (tgt := 63) q52_86 (by decide) ?_
  refine a_iload_n (i := 1) q52_63 rfl rfl ?_
  refine a_bipush (v := 6) q52_64 (by decide) ?_
  refine a_icmp_ge (tgt := 89) q52_66 (by decide) (fun zc66_2 => absurd zc66_2 (by decide)) (fun zc66_2 => ?_)
  refine a_aload_n (i := 0) q52_69 rfl rfl ?_
  refine a_getfield q52_70 rfl rfl ?_
  refine a_iload_n (i := 1) q52_73 rfl rfl ?_
  refine a_iconst (v := (-1)) q52_74 (by decide) ?_
  refine a_iast' q52_75 rfl (j := 2) rfl (by decide) (by decide) (h' := [.inl (7, dfl 7), .inl (5, [.ref 2, .ref 3, .ref 4, .ref 5, .ref 6, .ref 7, .ref 8, .int 0]), .inr (0, 240, .inl (fun _ => 0)), .inr (0, 6, .inl (upd (upd (upd (fun _ => 0) 0 (-1)) 1 (-1)) 2 (-1))), .inr (0, 6, .inl (upd (upd (fun _ => 0) 0 0) 1 0)), .inr (0, 6, .inl (fun _ => 0)), .inr (0, 6, .inl (fun _ => 0)), .inr (1, 6, .inr (.inl (fun _ => 0))), .inr (1, 6, .inr (.inl (fun _ => 0)))]) rfl ?_
  refine a_aload_n (i := 0) q52_76 rfl rfl ?_
  refine a_getfield q52_77 rfl rfl ?_
  refine a_iload_n (i := 1) q52_80 rfl rfl ?_
  refine a_iconst (v := 0) q52_81 (by decide) ?_
  refine a_iast' q52_82 rfl (j := 2) rfl (by decide) (by decide) (h' := [.inl (7, dfl 7), .inl (5, [.ref 2, .ref 3, .ref 4, .ref 5, .ref 6, .ref 7, .ref 8, .int 0]), .inr (0, 240, .inl (fun _ => 0)), .inr (0, 6, .inl (upd (upd (upd (fun _ => 0) 0 (-1)) 1 (-1)) 2 (-1))), .inr (0, 6, .inl (upd (upd (upd (fun _ => 0) 0 0) 1 0) 2 0)), .inr (0, 6, .inl (fun _ => 0)), .inr (0, 6, .inl (fun _ => 0)), .inr (1, 6, .inr (.inl (fun _ => 0))), .inr (1, 6, .inr (.inl (fun _ => 0)))]) rfl ?_
  refine a_iinc (lv' := [(0, _), (1, _)]) q52_83 rfl rfl rfl rfl ?_
  refine a_goto (tgt := 63) q52_86 (by decide) ?_
  refine a_iload_n (i := 1) q52_63 rfl rfl ?_
  refine a_bipush (v := 6) q52_64 (by decide) ?_
  refine a_icmp_ge (tgt := 89) q52_66 (by decide) (fun zc66_3 => absurd zc66_3 (by decide)) (fun zc66_3 => ?_)
  refine a_aload_n (i := 0) q52_69 rfl rfl ?_
  refine a_getfield q52_70 rfl rfl ?_
  refine a_iload_n (i := 1) q52_73 rfl rfl ?_
  refine a_iconst (v := (-1)) q52_74 (by decide) ?_
  refine a_iast' q52_75 rfl (j := 3) rfl (by decide) (by decide) (h' := [.inl (7, dfl 7), .inl (5, [.ref 2, .ref 3, .ref 4, .ref 5, .ref 6, .ref 7, .ref 8, .int 0]), .inr (0, 240, .inl (fun _ => 0)), .inr (0, 6, .inl (upd (upd (upd (upd (fun _ => 0) 0 (-1)) 1 (-1)) 2 (-1)) 3 (-1))), .inr (0, 6, .inl (upd (upd (upd (fun _ => 0) 0 0) 1 0) 2 0)), .inr (0, 6, .inl (fun _ => 0)), .inr (0, 6, .inl (fun _ => 0)), .inr (1, 6, .inr (.inl (fun _ => 0))), .inr (1, 6, .inr (.inl (fun _ => 0)))]) rfl ?_
  refine a_aload_n (i := 0) q52_76 rfl rfl ?_
  refine a_getfield q52_77 rfl rfl ?_
  refine a_iload_n (i := 1) q52_80 rfl rfl ?_
  refine a_iconst (v := 0) q52_81 (by decide) ?_
  refine a_iast' q52_82 rfl (j := 3) rfl (by decide) (by decide) (h' := [.inl (7, dfl 7), .inl (5, [.ref 2, .ref 3, .ref 4, .ref 5, .ref 6, .ref 7, .ref 8, .int 0]), .inr (0, 240, .inl (fun _ => 0)), .inr (0, 6, .inl (upd (upd (upd (upd (fun _ => 0) 0 (-1)) 1 (-1)) 2 (-1)) 3 (-1))), .inr (0, 6, .inl (upd (upd (upd (upd (fun _ => 0) 0 0) 1 0) 2 0) 3 0)), .inr (0, 6, .inl (fun _ => 0)), .inr (0, 6, .inl (fun _ => 0)), .inr (1, 6, .inr (.inl (fun _ => 0))), .inr (1, 6, .inr (.inl (fun _ => 0)))]) rfl ?_
  refine a_iinc (lv' := [(0, _), (1, _)]) q52_83 rfl rfl rfl rfl ?_
  refine a_goto (tgt := 63) q52_86 (by decide) ?_
  refine a_iload_n (i := 1) q52_63 rfl rfl ?_
  refine a_bipush (v := 6) q52_64 (by decide) ?_
  refine a_icmp_ge (tgt := 89) q52_66 (by decide) (fun zc66_4 => absurd zc66_4 (by decide)) (fun zc66_4 => ?_)
  refine a_aload_n (i := 0) q52_69 rfl rfl ?_
  refine a_getfield q52_70 rfl rfl ?_
  refine a_iload_n (i := 1) q52_73 rfl rfl ?_
  refine a_iconst (v := (-1)) q52_74 (by decide) ?_
  refine a_iast' q52_75 rfl (j := 4) rfl (by decide) (by decide) (h' := [.inl (7, dfl 7), .inl (5, [.ref 2, .ref 3, .ref 4, .ref 5, .ref 6, .ref 7, .ref 8, .int 0]), .inr (0, 240, .inl (fun _ => 0)), .inr (0, 6, .inl (upd (upd (upd (upd (upd (fun _ => 0) 0 (-1)) 1 (-1)) 2 (-1)) 3 (-1)) 4 (-1))), .inr (0, 6, .inl (upd (upd (upd (upd (fun _ => 0) 0 0) 1 0) 2 0) 3 0)), .inr (0, 6, .inl (fun _ => 0)), .inr (0, 6, .inl (fun _ => 0)), .inr (1, 6, .inr (.inl (fun _ => 0))), .inr (1, 6, .inr (.inl (fun _ => 0)))]) rfl ?_
  refine a_aload_n (i := 0) q52_76 rfl rfl ?_
  refine a_getfield q52_77 rfl rfl ?_
  refine a_iload_n (i := 1) q52_80 rfl rfl ?_
  refine a_iconst (v := 0) q52_81 (by decide) ?_
  refine a_iast' q52_82 rfl (j := 4) rfl (by decide) (by decide) (h' := [.inl (7, dfl 7), .inl (5, [.ref 2, .ref 3, .ref 4, .ref 5, .ref 6, .ref 7, .ref 8, .int 0]), .inr (0, 240, .inl (fun _ => 0)), .inr (0, 6, .inl (upd (upd (upd (upd (upd (fun _ => 0) 0 (-1)) 1 (-1)) 2 (-1)) 3 (-1)) 4 (-1))), .inr (0, 6, .inl (upd (upd (upd (upd (upd (fun _ => 0) 0 0) 1 0) 2 0) 3 0) 4 0)), .inr (0, 6, .inl (fun _ => 0)), .inr (0, 6, .inl (fun _ => 0)), .inr (1, 6, .inr (.inl (fun _ => 0))), .inr (1, 6, .inr (.inl (fun _ => 0)))]) rfl ?_
  refine a_iinc (lv' := [(0, _), (1, _)]) q52_83 rfl rfl rfl rfl ?_
  refine a_goto (tgt := 63) q52_86 (by decide) ?_
  refine a_iload_n (i := 1) q52_63 rfl rfl ?_
  refine a_bipush (v := 6) q52_64 (by decide) ?_
  refine a_icmp_ge (tgt := 89) q52_66 (by decide) (fun zc66_5 => absurd zc66_5 (by decide)) (fun zc66_5 => ?_)
  refine a_aload_n (i := 0) q52_69 rfl rfl ?_
  refine a_getfield q52_70 rfl rfl ?_
  refine a_iload_n (i := 1) q52_73 rfl rfl ?_
  refine a_iconst (v := (-1)) q52_74 (by decide) ?_
  refine a_iast' q52_75 rfl (j := 5) rfl (by decide) (by decide) (h' := [.inl (7, dfl 7), .inl (5, [.ref 2, .ref 3, .ref 4, .ref 5, .ref 6, .ref 7, .ref 8, .int 0]), .inr (0, 240, .inl (fun _ => 0)), .inr (0, 6, .inl (upd (upd (upd (upd (upd (upd (fun _ => 0) 0 (-1)) 1 (-1)) 2 (-1)) 3 (-1)) 4 (-1)) 5 (-1))), .inr (0, 6, .inl (upd (upd (upd (upd (upd (fun _ => 0) 0 0) 1 0) 2 0) 3 0) 4 0)), .inr (0, 6, .inl (fun _ => 0)), .inr (0, 6, .inl (fun _ => 0)), .inr (1, 6, .inr (.inl (fun _ => 0))), .inr (1, 6, .inr (.inl (fun _ => 0)))]) rfl ?_
  refine a_aload_n (i := 0) q52_76 rfl rfl ?_
  refine a_getfield q52_77 rfl rfl ?_
  refine a_iload_n (i := 1) q52_80 rfl rfl ?_
  refine a_iconst (v := 0) q52_81 (by decide) ?_
  refine a_iast' q52_82 rfl (j := 5) rfl (by decide) (by decide) (h' := [.inl (7, dfl 7), .inl (5, [.ref 2, .ref 3, .ref 4, .ref 5, .ref 6, .ref 7, .ref 8, .int 0]), .inr (0, 240, .inl (fun _ => 0)), .inr (0, 6, .inl (upd (upd (upd (upd (upd (upd (fun _ => 0) 0 (-1)) 1 (-1)) 2 (-1)) 3 (-1)) 4 (-1)) 5 (-1))), .inr (0, 6, .inl (upd (upd (upd (upd (upd (upd (fun _ => 0) 0 0) 1 0) 2 0) 3 0) 4 0) 5 0)), .inr (0, 6, .inl (fun _ => 0)), .inr (0, 6, .inl (fun _ => 0)), .inr (1, 6, .inr (.inl (fun _ => 0))), .inr (1, 6, .inr (.inl (fun _ => 0)))]) rfl ?_
  refine a_iinc (lv' := [(0, _), (1, _)]) q52_83 rfl rfl rfl rfl ?_
  refine a_goto (tgt := 63) q52_86 (by decide) ?_
  refine a_iload_n (i := 1) q52_63 rfl rfl ?_
  refine a_bipush (v := 6) q52_64 (by decide) ?_
  refine a_icmp_ge (tgt := 89) q52_66 (by decide) (fun zc66_6 => ?_) (fun zc66_6 => absurd (by decide) zc66_6)
  refine a_return q52_89 rfl ?_
  exact hq

theorem c_X3_init {X : XS} {Q : AO → AH → Prop}  (hq : Q (.inl none) [.inl (7, [.ref 1, .null, .null, .null, .null, .null, .int 0, .int 0]), .inl (5, [.ref 2, .ref 3, .ref 4, .ref 5, .ref 6, .ref 7, .ref 8, .int 0]), .inr (0, 240, .inl (fun _ => 0)), .inr (0, 6, .inl A3_0), .inr (0, 6, .inl A4_0), .inr (0, 6, .inl (fun _ => 0)), .inr (0, 6, .inl (fun _ => 0)), .inr (1, 6, .inr (.inl (fun _ => 0))), .inr (1, 6, .inr (.inl (fun _ => 0))), .inl (2, [.ref 1, .int 0, .int 45, .int 0])]) : Call X 25 [.ref 9, .ref 1] [.inl (7, [.ref 1, .null, .null, .null, .null, .null, .int 0, .int 0]), .inl (5, [.ref 2, .ref 3, .ref 4, .ref 5, .ref 6, .ref 7, .ref 8, .int 0]), .inr (0, 240, .inl (fun _ => 0)), .inr (0, 6, .inl A3_0), .inr (0, 6, .inl A4_0), .inr (0, 6, .inl (fun _ => 0)), .inr (0, 6, .inl (fun _ => 0)), .inr (1, 6, .inr (.inl (fun _ => 0))), .inr (1, 6, .inr (.inl (fun _ => 0))), .inl (2, dfl 2)] Q := by
  refine call_of (by decide) rfl rfl ?_
  refine a_aload_n (i := 0) q25_0 rfl rfl ?_
  refine a_objInit q25_1 rfl ?_
  refine a_aload_n (i := 0) q25_4 rfl rfl ?_
  refine a_aload_n (i := 1) q25_5 rfl rfl ?_
  refine a_putfield q25_6 rfl rfl rfl rfl ?_
  refine AW.hp (h' := [.inl (7, [.ref 1, .null, .null, .null, .null, .null, .int 0, .int 0]), .inl (5, [.ref 2, .ref 3, .ref 4, .ref 5, .ref 6, .ref 7, .ref 8, .int 0]), .inr (0, 240, .inl (fun _ => 0)), .inr (0, 6, .inl A3_0), .inr (0, 6, .inl A4_0), .inr (0, 6, .inl (fun _ => 0)), .inr (0, 6, .inl (fun _ => 0)), .inr (1, 6, .inr (.inl (fun _ => 0))), .inr (1, 6, .inr (.inl (fun _ => 0))), .inl (2, [.ref 1, .int 0, .int 0, .int 0])]) rfl ?_
  refine a_aload_n (i := 0) q25_9 rfl rfl ?_
  refine a_bipush (v := 45) q25_10 (by decide) ?_
  refine a_putfield q25_12 rfl rfl rfl rfl ?_
  refine AW.hp (h' := [.inl (7, [.ref 1, .null, .null, .null, .null, .null, .int 0, .int 0]), .inl (5, [.ref 2, .ref 3, .ref 4, .ref 5, .ref 6, .ref 7, .ref 8, .int 0]), .inr (0, 240, .inl (fun _ => 0)), .inr (0, 6, .inl A3_0), .inr (0, 6, .inl A4_0), .inr (0, 6, .inl (fun _ => 0)), .inr (0, 6, .inl (fun _ => 0)), .inr (1, 6, .inr (.inl (fun _ => 0))), .inr (1, 6, .inr (.inl (fun _ => 0))), .inl (2, [.ref 1, .int 0, .int 45, .int 0])]) rfl ?_
  refine a_return q25_15 rfl ?_
  exact hq

theorem c_X2_init {X : XS} {Q : AO → AH → Prop}  (hq : Q (.inl none) [.inl (7, [.ref 1, .ref 9, .null, .null, .null, .null, .int 0, .int 0]), .inl (5, [.ref 2, .ref 3, .ref 4, .ref 5, .ref 6, .ref 7, .ref 8, .int 0]), .inr (0, 240, .inl (fun _ => 0)), .inr (0, 6, .inl A3_0), .inr (0, 6, .inl A4_0), .inr (0, 6, .inl (fun _ => 0)), .inr (0, 6, .inl (fun _ => 0)), .inr (1, 6, .inr (.inl (fun _ => 0))), .inr (1, 6, .inr (.inl (fun _ => 0))), .inl (2, [.ref 1, .int 0, .int 45, .int 0]), .inl (1, [.ref 1, .ref 11]), .inr (0, 8, .inl ro_w)]) : Call X 18 [.ref 10, .ref 1] [.inl (7, [.ref 1, .ref 9, .null, .null, .null, .null, .int 0, .int 0]), .inl (5, [.ref 2, .ref 3, .ref 4, .ref 5, .ref 6, .ref 7, .ref 8, .int 0]), .inr (0, 240, .inl (fun _ => 0)), .inr (0, 6, .inl A3_0), .inr (0, 6, .inl A4_0), .inr (0, 6, .inl (fun _ => 0)), .inr (0, 6, .inl (fun _ => 0)), .inr (1, 6, .inr (.inl (fun _ => 0))), .inr (1, 6, .inr (.inl (fun _ => 0))), .inl (2, [.ref 1, .int 0, .int 45, .int 0]), .inl (1, dfl 1)] Q := by
  refine call_of (by decide) rfl rfl ?_
  refine a_aload_n (i := 0) q18_0 rfl rfl ?_
  refine a_objInit q18_1 rfl ?_
  refine a_aload_n (i := 0) q18_4 rfl rfl ?_
  refine a_aload_n (i := 1) q18_5 rfl rfl ?_
  refine a_putfield q18_6 rfl rfl rfl rfl ?_
  refine AW.hp (h' := [.inl (7, [.ref 1, .ref 9, .null, .null, .null, .null, .int 0, .int 0]), .inl (5, [.ref 2, .ref 3, .ref 4, .ref 5, .ref 6, .ref 7, .ref 8, .int 0]), .inr (0, 240, .inl (fun _ => 0)), .inr (0, 6, .inl A3_0), .inr (0, 6, .inl A4_0), .inr (0, 6, .inl (fun _ => 0)), .inr (0, 6, .inl (fun _ => 0)), .inr (1, 6, .inr (.inl (fun _ => 0))), .inr (1, 6, .inr (.inl (fun _ => 0))), .inl (2, [.ref 1, .int 0, .int 45, .int 0]), .inl (1, [.ref 1, .null])]) rfl ?_
  refine a_aload_n (i := 0) q18_9 rfl rfl ?_
  refine a_getstatic q18_10 ?_
  refine a_clone (kn := 11) q18_13 rfl rfl (by decide) rfl ⟨rfl, rfl⟩ ?_
  refine a_castI q18_16 rfl ?_
  refine a_putfield q18_19 rfl rfl rfl rfl ?_
  refine AW.hp (h' := [.inl (7, [.ref 1, .ref 9, .null, .null, .null, .null, .int 0, .int 0]), .inl (5, [.ref 2, .ref 3, .ref 4, .ref 5, .ref 6, .ref 7, .ref 8, .int 0]), .inr (0, 240, .inl (fun _ => 0)), .inr (0, 6, .inl A3_0), .inr (0, 6, .inl A4_0), .inr (0, 6, .inl (fun _ => 0)), .inr (0, 6, .inl (fun _ => 0)), .inr (1, 6, .inr (.inl (fun _ => 0))), .inr (1, 6, .inr (.inl (fun _ => 0))), .inl (2, [.ref 1, .int 0, .int 45, .int 0]), .inl (1, [.ref 1, .ref 11]), .inr (0, 8, .inl ro_w)]) rfl ?_
  refine a_return q18_22 rfl ?_
  exact hq

theorem c_X0_init_1 {X : XS} {Q : AO → AH → Prop}  (hq : Q (.inl none) [.inl (7, [.ref 1, .ref 9, .ref 10, .null, .null, .null, .int 0, .int 0]), .inl (5, [.ref 2, .ref 3, .ref 4, .ref 5, .ref 6, .ref 7, .ref 8, .int 0]), .inr (0, 240, .inl (fun _ => 0)), .inr (0, 6, .inl A3_0), .inr (0, 6, .inl A4_0), .inr (0, 6, .inl (fun _ => 0)), .inr (0, 6, .inl (fun _ => 0)), .inr (1, 6, .inr (.inl (fun _ => 0))), .inr (1, 6, .inr (.inl (fun _ => 0))), .inl (2, [.ref 1, .int 0, .int 45, .int 0]), .inl (1, [.ref 1, .ref 11]), .inr (0, 8, .inl ro_w), .inl (4, dfl 4), .inl (0, [.ref 14, .int 0]), .inr (1, 5, .inr (.inl (fun _ => 0)))]) : Call X 0 [.ref 13] [.inl (7, [.ref 1, .ref 9, .ref 10, .null, .null, .null, .int 0, .int 0]), .inl (5, [.ref 2, .ref 3, .ref 4, .ref 5, .ref 6, .ref 7, .ref 8, .int 0]), .inr (0, 240, .inl (fun _ => 0)), .inr (0, 6, .inl A3_0), .inr (0, 6, .inl A4_0), .inr (0, 6, .inl (fun _ => 0)), .inr (0, 6, .inl (fun _ => 0)), .inr (1, 6, .inr (.inl (fun _ => 0))), .inr (1, 6, .inr (.inl (fun _ => 0))), .inl (2, [.ref 1, .int 0, .int 45, .int 0]), .inl (1, [.ref 1, .ref 11]), .inr (0, 8, .inl ro_w), .inl (4, dfl 4), .inl (0, dfl 0)] Q := by
  refine call_of (by decide) rfl rfl ?_
  refine a_aload_n (i := 0) q0_0 rfl rfl ?_
  refine a_objInit q0_1 rfl ?_
  refine a_aload_n (i := 0) q0_4 rfl rfl ?_
  refine a_iconst (v := 5) q0_5 (by decide) ?_
  refine a_newarray (a := 1) (kn := 14) (N := 5) q0_6 (by decide) rfl (by decide) rfl (by decide) rfl ⟨rfl, rfl⟩ ?_
  refine a_putfield q0_8 rfl rfl rfl rfl ?_
  refine AW.hp (h' := [.inl (7, [.ref 1, .ref 9, .ref 10, .null, .null, .null, .int 0, .int 0]), .inl (5, [.ref 2, .ref 3, .ref 4, .ref 5, .ref 6, .ref 7, .ref 8, .int 0]), .inr (0, 240, .inl (fun _ => 0)), .inr (0, 6, .inl A3_0), .inr (0, 6, .inl A4_0), .inr (0, 6, .inl (fun _ => 0)), .inr (0, 6, .inl (fun _ => 0)), .inr (1, 6, .inr (.inl (fun _ => 0))), .inr (1, 6, .inr (.inl (fun _ => 0))), .inl (2, [.ref 1, .int 0, .int 45, .int 0]), .inl (1, [.ref 1, .ref 11]), .inr (0, 8, .inl ro_w), .inl (4, dfl 4), .inl (0, [.ref 14, .int 0]), .inr (1, 5, .inr (.inl (fun _ => 0)))]) rfl ?_
  refine a_return q0_11 rfl ?_
  exact hq

theorem c_X0_init_2 {X : XS} {Q : AO → AH → Prop}  (hq : Q (.inl none) [.inl (7, [.ref 1, .ref 9, .ref 10, .ref 12, .null, .null, .int 0, .int 0]), .inl (5, [.ref 2, .ref 3, .ref 4, .ref 5, .ref 6, .ref 7, .ref 8, .int 0]), .inr (0, 240, .inl (fun _ => 0)), .inr (0, 6, .inl A3_0), .inr (0, 6, .inl A4_0), .inr (0, 6, .inl (fun _ => 0)), .inr (0, 6, .inl (fun _ => 0)), .inr (1, 6, .inr (.inl (fun _ => 0))), .inr (1, 6, .inr (.inl (fun _ => 0))), .inl (2, [.ref 1, .int 0, .int 45, .int 0]), .inl (1, [.ref 1, .ref 11]), .inr (0, 8, .inl ro_w), .inl (4, [.ref 9, .ref 10, .ref 13, .int 1]), .inl (0, [.ref 14, .int 0]), .inr (1, 5, .inr (.inl (fun _ => 0))), .inl (6, dfl 6), .inl (0, [.ref 17, .int 0]), .inr (1, 5, .inr (.inl (fun _ => 0)))]) : Call X 0 [.ref 16] [.inl (7, [.ref 1, .ref 9, .ref 10, .ref 12, .null, .null, .int 0, .int 0]), .inl (5, [.ref 2, .ref 3, .ref 4, .ref 5, .ref 6, .ref 7, .ref 8, .int 0]), .inr (0, 240, .inl (fun _ => 0)), .inr (0, 6, .inl A3_0), .inr (0, 6, .inl A4_0), .inr (0, 6, .inl (fun _ => 0)), .inr (0, 6, .inl (fun _ => 0)), .inr (1, 6, .inr (.inl (fun _ => 0))), .inr (1, 6, .inr (.inl (fun _ => 0))), .inl (2, [.ref 1, .int 0, .int 45, .int 0]), .inl (1, [.ref 1, .ref 11]), .inr (0, 8, .inl ro_w), .inl (4, [.ref 9, .ref 10, .ref 13, .int 1]), .inl (0, [.ref 14, .int 0]), .inr (1, 5, .inr (.inl (fun _ => 0))), .inl (6, dfl 6), .inl (0, dfl 0)] Q := by
  refine call_of (by decide) rfl rfl ?_
  refine a_aload_n (i := 0) q0_0 rfl rfl ?_
  refine a_objInit q0_1 rfl ?_
  refine a_aload_n (i := 0) q0_4 rfl rfl ?_
  refine a_iconst (v := 5) q0_5 (by decide) ?_
  refine a_newarray (a := 1) (kn := 17) (N := 5) q0_6 (by decide) rfl (by decide) rfl (by decide) rfl ⟨rfl, rfl⟩ ?_
  refine a_putfield q0_8 rfl rfl rfl rfl ?_
  refine AW.hp (h' := [.inl (7, [.ref 1, .ref 9, .ref 10, .ref 12, .null, .null, .int 0, .int 0]), .inl (5, [.ref 2, .ref 3, .ref 4, .ref 5, .ref 6, .ref 7, .ref 8, .int 0]), .inr (0, 240, .inl (fun _ => 0)), .inr (0, 6, .inl A3_0), .inr (0, 6, .inl A4_0), .inr (0, 6, .inl (fun _ => 0)), .inr (0, 6, .inl (fun _ => 0)), .inr (1, 6, .inr (.inl (fun _ => 0))), .inr (1, 6, .inr (.inl (fun _ => 0))), .inl (2, [.ref 1, .int 0, .int 45, .int 0]), .inl (1, [.ref 1, .ref 11]), .inr (0, 8, .inl ro_w), .inl (4, [.ref 9, .ref 10, .ref 13, .int 1]), .inl (0, [.ref 14, .int 0]), .inr (1, 5, .inr (.inl (fun _ => 0))), .inl (6, dfl 6), .inl (0, [.ref 17, .int 0]), .inr (1, 5, .inr (.inl (fun _ => 0)))]) rfl ?_
  refine a_return q0_11 rfl ?_
  exact hq

theorem c_X6_init {X : XS} {Q : AO → AH → Prop}  (hq : Q (.inl none) [.inl (7, [.ref 1, .ref 9, .ref 10, .null, .null, .null, .int 0, .int 0]), .inl (5, [.ref 2, .ref 3, .ref 4, .ref 5, .ref 6, .ref 7, .ref 8, .int 0]), .inr (0, 240, .inl (fun _ => 0)), .inr (0, 6, .inl A3_0), .inr (0, 6, .inl A4_0), .inr (0, 6, .inl (fun _ => 0)), .inr (0, 6, .inl (fun _ => 0)), .inr (1, 6, .inr (.inl (fun _ => 0))), .inr (1, 6, .inr (.inl (fun _ => 0))), .inl (2, [.ref 1, .int 0, .int 45, .int 0]), .inl (1, [.ref 1, .ref 11]), .inr (0, 8, .inl ro_w), .inl (4, [.ref 9, .ref 10, .ref 13, .int 1]), .inl (0, [.ref 14, .int 0]), .inr (1, 5, .inr (.inl (fun _ => 0)))]) : Call X 46 [.ref 12, .ref 9, .ref 10] [.inl (7, [.ref 1, .ref 9, .ref 10, .null, .null, .null, .int 0, .int 0]), .inl (5, [.ref 2, .ref 3, .ref 4, .ref 5, .ref 6, .ref 7, .ref 8, .int 0]), .inr (0, 240, .inl (fun _ => 0)), .inr (0, 6, .inl A3_0), .inr (0, 6, .inl A4_0), .inr (0, 6, .inl (fun _ => 0)), .inr (0, 6, .inl (fun _ => 0)), .inr (1, 6, .inr (.inl (fun _ => 0))), .inr (1, 6, .inr (.inl (fun _ => 0))), .inl (2, [.ref 1, .int 0, .int 45, .int 0]), .inl (1, [.ref 1, .ref 11]), .inr (0, 8, .inl ro_w), .inl (4, dfl 4)] Q := by
  refine call_of (by decide) rfl rfl ?_
  refine a_aload_n (i := 0) q46_0 rfl rfl ?_
  refine a_objInit q46_1 rfl ?_
  refine a_aload_n (i := 0) q46_4 rfl rfl ?_
  refine a_new (a := 0) (kn := 13) q46_5 rfl (by decide) rfl ⟨rfl, rfl⟩ ?_
  refine a_dup q46_8 rfl ?_
  refine a_callI (as := []) q46_9 rfl rfl ⟨rfl, rfl⟩ (Or.inr ⟨rfl, rfl, rfl⟩) (c_X0_init_1 (ck_v ?_))
  refine a_putfield q46_12 rfl rfl rfl rfl ?_
  refine AW.hp (h' := [.inl (7, [.ref 1, .ref 9, .ref 10, .null, .null, .null, .int 0, .int 0]), .inl (5, [.ref 2, .ref 3, .ref 4, .ref 5, .ref 6, .ref 7, .ref 8, .int 0]), .inr (0, 240, .inl (fun _ => 0)), .inr (0, 6, .inl A3_0), .inr (0, 6, .inl A4_0), .inr (0, 6, .inl (fun _ => 0)), .inr (0, 6, .inl (fun _ => 0)), .inr (1, 6, .inr (.inl (fun _ => 0))), .inr (1, 6, .inr (.inl (fun _ => 0))), .inl (2, [.ref 1, .int 0, .int 45, .int 0]), .inl (1, [.ref 1, .ref 11]), .inr (0, 8, .inl ro_w), .inl (4, [.null, .null, .ref 13, .int 0]), .inl (0, [.ref 14, .int 0]), .inr (1, 5, .inr (.inl (fun _ => 0)))]) rfl ?_
  refine a_aload_n (i := 0) q46_15 rfl rfl ?_
  refine a_iconst (v := 1) q46_16 (by decide) ?_
  refine a_putfield q46_17 rfl rfl rfl rfl ?_
  refine AW.hp (h' := [.inl (7, [.ref 1, .ref 9, .ref 10, .null, .null, .null, .int 0, .int 0]), .inl (5, [.ref 2, .ref 3, .ref 4, .ref 5, .ref 6, .ref 7, .ref 8, .int 0]), .inr (0, 240, .inl (fun _ => 0)), .inr (0, 6, .inl A3_0), .inr (0, 6, .inl A4_0), .inr (0, 6, .inl (fun _ => 0)), .inr (0, 6, .inl (fun _ => 0)), .inr (1, 6, .inr (.inl (fun _ => 0))), .inr (1, 6, .inr (.inl (fun _ => 0))), .inl (2, [.ref 1, .int 0, .int 45, .int 0]), .inl (1, [.ref 1, .ref 11]), .inr (0, 8, .inl ro_w), .inl (4, [.null, .null, .ref 13, .int 1]), .inl (0, [.ref 14, .int 0]), .inr (1, 5, .inr (.inl (fun _ => 0)))]) rfl ?_
  refine a_aload_n (i := 0) q46_20 rfl rfl ?_
  refine a_aload_n (i := 1) q46_21 rfl rfl ?_
  refine a_putfield q46_22 rfl rfl rfl rfl ?_
  refine AW.hp (h' := [.inl (7, [.ref 1, .ref 9, .ref 10, .null, .null, .null, .int 0, .int 0]), .inl (5, [.ref 2, .ref 3, .ref 4, .ref 5, .ref 6, .ref 7, .ref 8, .int 0]), .inr (0, 240, .inl (fun _ => 0)), .inr (0, 6, .inl A3_0), .inr (0, 6, .inl A4_0), .inr (0, 6, .inl (fun _ => 0)), .inr (0, 6, .inl (fun _ => 0)), .inr (1, 6, .inr (.inl (fun _ => 0))), .inr (1, 6, .inr (.inl (fun _ => 0))), .inl (2, [.ref 1, .int 0, .int 45, .int 0]), .inl (1, [.ref 1, .ref 11]), .inr (0, 8, .inl ro_w), .inl (4, [.ref 9, .null, .ref 13, .int 1]), .inl (0, [.ref 14, .int 0]), .inr (1, 5, .inr (.inl (fun _ => 0)))]) rfl ?_
  refine a_aload_n (i := 0) q46_25 rfl rfl ?_
  refine a_aload_n (i := 2) q46_26 rfl rfl ?_
  refine a_putfield q46_27 rfl rfl rfl rfl ?_
  refine AW.hp (h' := [.inl (7, [.ref 1, .ref 9, .ref 10, .null, .null, .null, .int 0, .int 0]), .inl (5, [.ref 2, .ref 3, .ref 4, .ref 5, .ref 6, .ref 7, .ref 8, .int 0]), .inr (0, 240, .inl (fun _ => 0)), .inr (0, 6, .inl A3_0), .inr (0, 6, .inl A4_0), .inr (0, 6, .inl (fun _ => 0)), .inr (0, 6, .inl (fun _ => 0)), .inr (1, 6, .inr (.inl (fun _ => 0))), .inr (1, 6, .inr (.inl (fun _ => 0))), .inl (2, [.ref 1, .int 0, .int 45, .int 0]), .inl (1, [.ref 1, .ref 11]), .inr (0, 8, .inl ro_w), .inl (4, [.ref 9, .ref 10, .ref 13, .int 1]), .inl (0, [.ref 14, .int 0]), .inr (1, 5, .inr (.inl (fun _ => 0)))]) rfl ?_
  refine a_return q46_30 rfl ?_
  exact hq

def plR (c : Int32) : Nat → Nat → Int32 → Int32
  | 0, _, _ => 1
  | m + 1, k, s => if g_col c (nI k) = -1 then plR c m (k + 1) s else if 6 ≤ g_col c (nI k) then 0 else if (s >>> (g_col c (nI k) &&& 31)) &&& 1 = 0 then plR c m (k + 1) (s ||| ((1 : Int32) <<< (g_col c (nI k) &&& 31))) else 0
theorem plR_01 (c : Int32) : ∀ m k s, plR c m k s = 0 ∨ plR c m k s = 1
  | 0, _, _ => Or.inr rfl
  | m + 1, k, s => by
    rw [plR]; split
    · exact plR_01 c m _ _
    · split
      · exact Or.inl rfl
      · split
        · exact plR_01 c m _ _
        · exact Or.inl rfl
theorem l_isPl (m : Nat) : ∀ {X : XS} {h : AH} {Q : AO → AH → Prop} {c s : Int32} {k : Nat} (hm : k + m = 4) (hq : Q (.inl (some (.int (plR c m k s)))) h), AW X 17 4 [(0, .int c), (1, .int s), (2, .int (nI k))] [] h 0 0 Q := by
  induction m with
  | zero =>
    intro X h Q c s k hm hq
    refine a_iload_n (i := 2) q17_4 rfl rfl ?_
    refine a_iconst (v := 4) q17_5 (by decide) ?_
    refine a_icmp_ge (tgt := 48) q17_6 (by decide) (fun zc6 => ?_) (fun zc6 => absurd (nI_le (show 4 ≤ k by omega) (by omega)) zc6)
    refine a_iconst (v := 1) q17_48 (by decide) ?_
    refine a_ireturn q17_49 (nr_bool rfl (by decide)) ?_
    exact hq
  | succ m ih =>
    intro X h Q c s k hm hq
    refine a_iload_n (i := 2) q17_4 rfl rfl ?_
    refine a_iconst (v := 4) q17_5 (by decide) ?_
    refine a_icmp_ge (tgt := 48) q17_6 (by decide) (fun zc6 => absurd zc6 (nI_ge (show k < 4 by omega) (by decide))) (fun zc6 => ?_)
    refine a_iload_n (i := 0) q17_9 rfl rfl ?_
    refine a_iload_n (i := 2) q17_10 rfl rfl ?_
    refine a_cs2 q17_11 rfl ⟨rfl, rfl⟩ rfl ?_
    refine c_X1_columnIn ?_
    refine ck_r ?_
    refine a_istore_n (i := 3) (lv' := [(0, _), (1, _), (2, _), (3, _)]) q17_14 rfl rfl rfl ?_
    refine a_iload_n (i := 3) q17_15 rfl rfl ?_
    refine a_iconst (v := (-1)) q17_16 (by decide) ?_
    refine a_icmp_eq (tgt := 42) q17_17 (by decide) (fun zc17 => ?_) (fun zc17 => ?_)
    · skip
      refine a_iinc (v := nI (k + 1)) (lv' := [(0, _), (1, _), (2, _), (3, _)]) q17_42 rfl rfl (nI_1 (k)) rfl ?_
      refine a_goto (tgt := 4) q17_45 (by decide) ?_
      refine AW.pop_less (x := (3, _)) (lv' := [(0, _), (1, _), (2, _)]) ?_
      rw [plR, if_pos zc17] at hq
      exact ih (show k + 1 + m = 4 by omega) hq
    · skip
      refine a_iload_n (i := 3) q17_20 rfl rfl ?_
      refine a_bipush (v := 6) q17_21 (by decide) ?_
      refine a_icmp_ge (tgt := 34) q17_23 (by decide) (fun zc23 => ?_) (fun zc23 => ?_)
      · skip
        refine a_iconst (v := 0) q17_34 (by decide) ?_
        refine a_ireturn q17_35 (nr_bool rfl (by decide)) ?_
        rw [plR, if_neg zc17, if_pos zc23] at hq
        exact hq
      · skip
        refine a_iload_n (i := 1) q17_26 rfl rfl ?_
        refine a_iload_n (i := 3) q17_27 rfl rfl ?_
        refine a_ishr q17_28 ?_
        refine a_iconst (v := 1) q17_29 (by decide) ?_
        refine a_iand q17_30 ?_
        refine a_if_eq (tgt := 36) q17_31 (by decide) (fun zc31 => ?_) (fun zc31 => ?_)
        · skip
          refine a_iload_n (i := 1) q17_36 rfl rfl ?_
          refine a_iconst (v := 1) q17_37 (by decide) ?_
          refine a_iload_n (i := 3) q17_38 rfl rfl ?_
          refine a_ishl q17_39 ?_
          refine a_ior q17_40 ?_
          refine a_istore_n (i := 1) (lv' := [(0, _), (1, _), (2, _), (3, _)]) q17_41 rfl rfl rfl ?_
          refine a_iinc (v := nI (k + 1)) (lv' := [(0, _), (1, _), (2, _), (3, _)]) q17_42 rfl rfl (nI_1 (k)) rfl ?_
          refine a_goto (tgt := 4) q17_45 (by decide) ?_
          refine AW.pop_less (x := (3, _)) (lv' := [(0, _), (1, _), (2, _)]) ?_
          rw [plR, if_neg zc17, if_neg zc23, if_pos zc31] at hq
          exact ih (show k + 1 + m = 4 by omega) hq
        · skip
          refine a_iconst (v := 0) q17_34 (by decide) ?_
          refine a_ireturn q17_35 (nr_bool rfl (by decide)) ?_
          rw [plR, if_neg zc17, if_neg zc23, if_neg zc31] at hq
          exact hq

theorem c_X1_isPlacement {X : XS} {h : AH} {Q : AO → AH → Prop} {c : Int32} (hq : Q (.inl (some (.int (plR c 4 0 0)))) h) : Call X 17 [.int c] h Q := by
  refine call_of (by decide) rfl rfl ?_
  refine a_iconst (v := 0) q17_0 (by decide) ?_
  refine a_istore_n (i := 1) (lv' := [(0, _), (1, _)]) q17_1 rfl rfl rfl ?_
  refine a_iconst (v := 0) q17_2 (by decide) ?_
  refine a_istore_n (i := 2) (lv' := [(0, _), (1, _), (2, _)]) q17_3 rfl rfl rfl ?_
  exact l_isPl 4 (k := 0) rfl hq

def plS (i : Nat) (s : (Nat → Int32) × Nat) : (Nat → Int32) × Nat := if s.2 < 1045 then (if plR (nI i) 4 0 0 = 0 then s else (upd s.1 s.2 (nI i), s.2 + 1)) else s
def s00 : (Nat → Int32) × Nat := (fun _ => 0, 0)
def PLC : Nat → Int32 := (fl plS 4096 0 s00).1
def h18 : AH := [.inl (7, [.ref 1, .ref 9, .ref 10, .ref 12, .null, .null, .int 0, .int 0]), .inl (5, [.ref 2, .ref 3, .ref 4, .ref 5, .ref 6, .ref 7, .ref 8, .int 0]), .inr (0, 240, .inl (fun _ => 0)), .inr (0, 6, .inl A3_0), .inr (0, 6, .inl A4_0), .inr (0, 6, .inl (fun _ => 0)), .inr (0, 6, .inl (fun _ => 0)), .inr (1, 6, .inr (.inl (fun _ => 0))), .inr (1, 6, .inr (.inl (fun _ => 0))), .inl (2, [.ref 1, .int 0, .int 45, .int 0]), .inl (1, [.ref 1, .ref 11]), .inr (0, 8, .inl ro_w), .inl (4, [.ref 9, .ref 10, .ref 13, .int 1]), .inl (0, [.ref 14, .int 0]), .inr (1, 5, .inr (.inl (fun _ => 0))), .inl (6, [.ref 9, .ref 10, .ref 16, .null, .int 0, .int 0]), .inl (0, [.ref 17, .int 0]), .inr (1, 5, .inr (.inl (fun _ => 0)))]
theorem l_list (m : Nat) : ∀ {X : XS} {h : AH} {Q : AO → AH → Prop} {s : (Nat → Int32) × Nat} {F : Nat → Int32} {i : Nat} (hk : s.2 ≤ 1045) (hm : i + m = 4096) (hF : (fl plS m i s).1 = F) (hq : Q (.inl (some (.ref 18))) (h18 ++ [.inr (0, 1045, .inl F)])), AW X 80 10 [(0, .ref 18), (1, .int (nI s.2)), (2, .int (nI i))] [] (h18 ++ [.inr (0, 1045, .inl s.1)]) 0 0 Q := by
  induction m with
  | zero =>
    intro X h Q s F i hk hm hF hq
    refine a_iload_n (i := 2) q80_10 rfl rfl ?_
    refine a_sipush (v := 4096) q80_11 (by decide) ?_
    refine a_icmp_ge (tgt := 43) q80_14 (by decide) (fun zc14 => ?_) (fun zc14 => absurd (nI_le (show 4096 ≤ i by omega) (by omega)) zc14)
    refine a_aload_n (i := 0) q80_43 rfl rfl ?_
    refine a_areturn q80_44 ⟨_, rfl, Or.inr ⟨_, rfl⟩⟩ ?_
    have hF2 : s.1 = F := hF
    rw [hF2]; exact hq
  | succ m ih =>
    intro X h Q s F i hk hm hF hq
    refine a_iload_n (i := 2) q80_10 rfl rfl ?_
    refine a_sipush (v := 4096) q80_11 (by decide) ?_
    refine a_icmp_ge (tgt := 43) q80_14 (by decide) (fun zc14 => absurd zc14 (nI_ge (show i < 4096 by omega) (by decide))) (fun zc14 => ?_)
    refine a_iload_n (i := 1) q80_17 rfl rfl ?_
    refine a_aload_n (i := 0) q80_18 rfl rfl ?_
    refine a_alen (v := 1045) q80_19 rfl (by decide) rfl ?_
    refine a_icmp_ge (tgt := 37) q80_20 (by decide) (fun zc20 => ?_) (fun zc20 => ?_)
    · skip
      refine a_iinc (v := nI (i + 1)) (lv' := [(0, _), (1, _), (2, _)]) q80_37 rfl rfl (nI_1 (i)) rfl ?_
      refine a_goto (tgt := 10) q80_40 (by decide) ?_
      have ze : plS i s = s := if_neg (fun zz => nI_ge zz (by decide) zc20)
      rw [fl, ze] at hF
      exact ih (h := h) (s := s) hk (show i + 1 + m = 4096 by omega) hF hq
    · skip
      have zlt : s.2 < 1045 := Nat.lt_of_not_le (fun zz => zc20 (nI_le zz (by omega)))
      refine a_iload_n (i := 2) q80_23 rfl rfl ?_
      refine a_cs1 q80_24 rfl ⟨rfl, rfl⟩ rfl ?_
      refine c_X1_isPlacement ?_
      refine ck_r ?_
      refine a_if_eq (tgt := 37) q80_27 (by decide) (fun zc27 => ?_) (fun zc27 => ?_)
      · skip
        refine a_iinc (v := nI (i + 1)) (lv' := [(0, _), (1, _), (2, _)]) q80_37 rfl rfl (nI_1 (i)) rfl ?_
        refine a_goto (tgt := 10) q80_40 (by decide) ?_
        have ze : plS i s = s := (if_pos zlt).trans (if_pos zc27)
        rw [fl, ze] at hF
        exact ih (h := h) (s := s) hk (show i + 1 + m = 4096 by omega) hF hq
      · skip
        refine a_aload_n (i := 0) q80_30 rfl rfl ?_
        refine a_iload_n (i := 1) q80_31 rfl rfl ?_
        refine a_iload_n (i := 2) q80_32 rfl rfl ?_
        refine a_iast' q80_33 rfl (j := s.2) rfl zlt (by decide) (h' := h18 ++ [.inr (0, 1045, .inl (upd s.1 s.2 (nI i)))]) rfl ?_
        refine a_iinc (v := nI (s.2 + 1)) (lv' := [(0, _), (1, _), (2, _)]) q80_34 rfl rfl (nI_1 (s.2)) rfl ?_
        refine a_iinc (v := nI (i + 1)) (lv' := [(0, _), (1, _), (2, _)]) q80_37 rfl rfl (nI_1 (i)) rfl ?_
        refine a_goto (tgt := 10) q80_40 (by decide) ?_
        have ze : plS i s = (upd s.1 s.2 (nI i), s.2 + 1) := (if_pos zlt).trans (if_neg zc27)
        rw [fl, ze] at hF
        exact ih (h := h) (s := (upd s.1 s.2 (nI i), s.2 + 1)) zlt (show i + 1 + m = 4096 by omega) hF hq

theorem c_X8_listPlacements {X : XS} {Q : AO → AH → Prop}  (hq : Q (.inl (some (.ref 18))) (h18 ++ [.inr (0, 1045, .inl PLC)])) : Call X 80 [] h18 Q := by
  refine call_of (by decide) rfl rfl ?_
  refine a_sipush (v := 1045) q80_0 (by decide) ?_
  refine a_newarray (a := 0) (kn := 18) (N := 1045) q80_3 (by decide) (nI_clamp (n := 1045) (by decide)) (by decide) rfl (by decide) rfl ⟨rfl, rfl⟩ ?_
  refine a_astore_n (i := 0) (lv' := [(0, _)]) q80_5 rfl rfl rfl ?_
  refine a_iconst (v := 0) q80_6 (by decide) ?_
  refine a_istore_n (i := 1) (lv' := [(0, _), (1, _)]) q80_7 rfl rfl rfl ?_
  refine a_iconst (v := 0) q80_8 (by decide) ?_
  refine a_istore_n (i := 2) (lv' := [(0, _), (1, _), (2, _)]) q80_9 rfl rfl rfl ?_
  refine AW.wide (bc' := 0) (bs' := 0) (Nat.zero_le _) (Nat.zero_le _) ?_
  refine AW.hp (h' := h18 ++ [.inr (0, 1045, .inl (fun _ => 0))]) rfl ?_
  exact l_list (h := []) 4096 (s := s00) (i := 0) (Nat.zero_le _) (Nat.zero_add _) PLC.eq_1.symm hq
