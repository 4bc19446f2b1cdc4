/-! constructors, behind the whole world -/
/-! constructors of the class -/
theorem c_X7_init_w {X : XS} {I : Nat → Int32} {A : Nat → Nat → Int32} {L : Nat → Nat → Int64} {Q : AO → AH → Prop}  (hq : Q (.inl none) (hp I A L [.inl (7, dfl 7), .inl (5, [.ref 24, .ref 25, .ref 26, .ref 27, .ref 28, .ref 29, .ref 30, .int 0]), .inr (0, 240, .inl (fun _ => 0)), .inr (0, 6, .inl A3_0), .inr (0, 6, .inl A4_0), .inr (0, 6, .inl (fun _ => 0)), .inr (0, 6, .inl (fun _ => 0)), .inr (1, 6, .inr (.inl (fun _ => 0))), .inr (1, 6, .inr (.inl (fun _ => 0)))])) : Call X 43 [.ref 23] (hp I A L [.inl (7, dfl 7), .inl (5, dfl 5)]) Q := by
  refine call_of (by decide) rfl rfl ?_
  refine a_aload_n (i := 0) q43_0 rfl rfl ?_
  refine a_objInit q43_1 rfl ?_
  refine a_aload_n (i := 0) q43_4 rfl rfl ?_
  refine a_sipush (v := 240) q43_5 (by decide) ?_
  refine a_newarray (a := 0) (kn := 24) (N := 240) q43_8 (by decide) rfl (by decide) rfl (by decide) rfl ⟨rfl, rfl⟩ ?_
  refine a_putfield q43_10 rfl rfl rfl rfl ?_
  refine AW.hp (h' := (hp I A L [.inl (7, dfl 7), .inl (5, [.ref 24, .null, .null, .null, .null, .null, .null, .int 0]), .inr (0, 240, .inl (fun _ => 0))])) rfl ?_
  refine a_aload_n (i := 0) q43_13 rfl rfl ?_
  refine a_bipush (v := 6) q43_14 (by decide) ?_
  refine a_newarray (a := 0) (kn := 25) (N := 6) q43_16 (by decide) rfl (by decide) rfl (by decide) rfl ⟨rfl, rfl⟩ ?_
  refine a_putfield q43_18 rfl rfl rfl rfl ?_
  refine AW.hp (h' := (hp I A L [.inl (7, dfl 7), .inl (5, [.ref 24, .ref 25, .null, .null, .null, .null, .null, .int 0]), .inr (0, 240, .inl (fun _ => 0)), .inr (0, 6, .inl (fun _ => 0))])) rfl ?_
  refine a_aload_n (i := 0) q43_21 rfl rfl ?_
  refine a_bipush (v := 6) q43_22 (by decide) ?_
  refine a_newarray (a := 0) (kn := 26) (N := 6) q43_24 (by decide) rfl (by decide) rfl (by decide) rfl ⟨rfl, rfl⟩ ?_
  refine a_putfield q43_26 rfl rfl rfl rfl ?_
  refine AW.hp (h' := (hp I A L [.inl (7, dfl 7), .inl (5, [.ref 24, .ref 25, .ref 26, .null, .null, .null, .null, .int 0]), .inr (0, 240, .inl (fun _ => 0)), .inr (0, 6, .inl (fun _ => 0)), .inr (0, 6, .inl (fun _ => 0))])) rfl ?_
  refine a_aload_n (i := 0) q43_29 rfl rfl ?_
  refine a_bipush (v := 6) q43_30 (by decide) ?_
  refine a_newarray (a := 0) (kn := 27) (N := 6) q43_32 (by decide) rfl (by decide) rfl (by decide) rfl ⟨rfl, rfl⟩ ?_
  refine a_putfield q43_34 rfl rfl rfl rfl ?_
  refine AW.hp (h' := (hp I A L [.inl (7, dfl 7), .inl (5, [.ref 24, .ref 25, .ref 26, .ref 27, .null, .null, .null, .int 0]), .inr (0, 240, .inl (fun _ => 0)), .inr (0, 6, .inl (fun _ => 0)), .inr (0, 6, .inl (fun _ => 0)), .inr (0, 6, .inl (fun _ => 0))])) rfl ?_
  refine a_aload_n (i := 0) q43_37 rfl rfl ?_
  refine a_bipush (v := 6) q43_38 (by decide) ?_
  refine a_newarray (a := 0) (kn := 28) (N := 6) q43_40 (by decide) rfl (by decide) rfl (by decide) rfl ⟨rfl, rfl⟩ ?_
  refine a_putfield q43_42 rfl rfl rfl rfl ?_
  refine AW.hp (h' := (hp I A L [.inl (7, dfl 7), .inl (5, [.ref 24, .ref 25, .ref 26, .ref 27, .ref 28, .null, .null, .int 0]), .inr (0, 240, .inl (fun _ => 0)), .inr (0, 6, .inl (fun _ => 0)), .inr (0, 6, .inl (fun _ => 0)), .inr (0, 6, .inl (fun _ => 0)), .inr (0, 6, .inl (fun _ => 0))])) rfl ?_
  refine a_aload_n (i := 0) q43_45 rfl rfl ?_
  refine a_bipush (v := 6) q43_46 (by decide) ?_
  refine a_newarray (a := 1) (kn := 29) (N := 6) q43_48 (by decide) rfl (by decide) rfl (by decide) rfl ⟨rfl, rfl⟩ ?_
  refine a_putfield q43_50 rfl rfl rfl rfl ?_
  refine AW.hp (h' := (hp I A L [.inl (7, dfl 7), .inl (5, [.ref 24, .ref 25, .ref 26, .ref 27, .ref 28, .ref 29, .null, .int 0]), .inr (0, 240, .inl (fun _ => 0)), .inr (0, 6, .inl (fun _ => 0)), .inr (0, 6, .inl (fun _ => 0)), .inr (0, 6, .inl (fun _ => 0)), .inr (0, 6, .inl (fun _ => 0)), .inr (1, 6, .inr (.inl (fun _ => 0)))])) rfl ?_
  refine a_aload_n (i := 0) q43_53 rfl rfl ?_
  refine a_bipush (v := 6) q43_54 (by decide) ?_
  refine a_newarray (a := 1) (kn := 30) (N := 6) q43_56 (by decide) rfl (by decide) rfl (by decide) rfl ⟨rfl, rfl⟩ ?_
  refine a_putfield q43_58 rfl rfl rfl rfl ?_
  refine AW.hp (h' := (hp I A L [.inl (7, dfl 7), .inl (5, [.ref 24, .ref 25, .ref 26, .ref 27, .ref 28, .ref 29, .ref 30, .int 0]), .inr (0, 240, .inl (fun _ => 0)), .inr (0, 6, .inl (fun _ => 0)), .inr (0, 6, .inl (fun _ => 0)), .inr (0, 6, .inl (fun _ => 0)), .inr (0, 6, .inl (fun _ => 0)), .inr (1, 6, .inr (.inl (fun _ => 0))), .inr (1, 6, .inr (.inl (fun _ => 0)))])) rfl ?_
  refine a_iconst (v := 0) q43_61 (by decide) ?_
  refine a_istore_n (i := 1) (lv' := [(0, _), (1, _)]) q43_62 rfl rfl rfl ?_
  refine a_iload_n (i := 1) q43_63 rfl rfl ?_
  refine a_bipush (v := 6) q43_64 (by decide) ?_
  refine a_icmp_ge (tgt := 89) q43_66 (by decide) (fun zc66 => absurd zc66 (by decide)) (fun zc66 => ?_)
  refine a_aload_n (i := 0) q43_69 rfl rfl ?_
  refine a_getfield q43_70 rfl rfl ?_
  refine a_iload_n (i := 1) q43_73 rfl rfl ?_
  refine a_iconst (v := (-1)) q43_74 (by decide) ?_
  refine a_iast' q43_75 rfl (j := 0) rfl (by decide) (by decide) (h' := (hp I A L [.inl (7, dfl 7), .inl (5, [.ref 24, .ref 25, .ref 26, .ref 27, .ref 28, .ref 29, .ref 30, .int 0]), .inr (0, 240, .inl (fun _ => 0)), .inr (0, 6, .inl (upd (fun _ => 0) 0 (-1))), .inr (0, 6, .inl (fun _ => 0)), .inr (0, 6, .inl (fun _ => 0)), .inr (0, 6, .inl (fun _ => 0)), .inr (1, 6, .inr (.inl (fun _ => 0))), .inr (1, 6, .inr (.inl (fun _ => 0)))])) rfl ?_
  refine a_aload_n (i := 0) q43_76 rfl rfl ?_
  refine a_getfield q43_77 rfl rfl ?_
  refine a_iload_n (i := 1) q43_80 rfl rfl ?_
  refine a_iconst (v := 0) q43_81 (by decide) ?_
  refine a_iast' q43_82 rfl (j := 0) rfl (by decide) (by decide) (h' := (hp I A L [.inl (7, dfl 7), .inl (5, [.ref 24, .ref 25, .ref 26, .ref 27, .ref 28, .ref 29, .ref 30, .int 0]), .inr (0, 240, .inl (fun _ => 0)), .inr (0, 6, .inl (upd (fun _ => 0) 0 (-1))), .inr (0, 6, .inl (upd (fun _ => 0) 0 0)), .inr (0, 6, .inl (fun _ => 0)), .inr (0, 6, .inl (fun _ => 0)), .inr (1, 6, .inr (.inl (fun _ => 0))), .inr (1, 6, .inr (.inl (fun _ => 0)))])) rfl ?_
  refine a_iinc (lv' := [(0, _), (1, _)]) q43_83 rfl rfl rfl rfl ?_
  refine a_goto (tgt := 63) q43_86 (by decide) ?_
  refine a_iload_n (i := 1) q43_63 rfl rfl ?_
  refine a_bipush (v := 6) q43_64 (by decide) ?_
  refine a_icmp_ge (tgt := 89) q43_66 (by decide) (fun zc66_1 => absurd zc66_1 (by decide)) (fun zc66_1 => ?_)
  refine a_aload_n (i := 0) q43_69 rfl rfl ?_
  refine a_getfield q43_70 rfl rfl ?_
  refine a_iload_n (i := 1) q43_73 rfl rfl ?_
  refine a_iconst (v := (-1)) q43_74 (by decide) ?_
  refine a_iast' q43_75 rfl (j := 1) rfl (by decide) (by decide) (h' := (hp I A L [.inl (7, dfl 7), .inl (5, [.ref 24, .ref 25, .ref 26, .ref 27, .ref 28, .ref 29, .ref 30, .int 0]), .inr (0, 240, .inl (fun _ => 0)), .inr (0, 6, .inl (upd (upd (fun _ => 0) 0 (-1)) 1 (-1))), .inr (0, 6, .inl (upd (fun _ => 0) 0 0)), .inr (0, 6, .inl (fun _ => 0)), .inr (0, 6, .inl (fun _ => 0)), .inr (1, 6, .inr (.inl (fun _ => 0))), .inr (1, 6, .inr (.inl (fun _ => 0)))])) rfl ?_
  refine a_aload_n (i := 0) q43_76 rfl rfl ?_
  refine a_getfield q43_77 rfl rfl ?_
  refine a_iload_n (i := 1) q43_80 rfl rfl ?_
  refine a_iconst (v := 0) q43_81 (by decide) ?_
  refine a_iast' q43_82 rfl (j := 1) rfl (by decide) (by decide) (h' := (hp I A L [.inl (7, dfl 7), .inl (5, [.ref 24, .ref 25, .ref 26, .ref 27, .ref 28, .ref 29, .ref 30, .int 0]), .inr (0, 240, .inl (fun _ => 0)), .inr (0, 6, .inl (upd (upd (fun _ => 0) 0 (-1)) 1 (-1))), .inr (0, 6, .inl (upd (upd (fun _ => 0) 0 0) 1 0)), .inr (0, 6, .inl (fun _ => 0)), .inr (0, 6, .inl (fun _ => 0)), .inr (1, 6, .inr (.inl (fun _ => 0))), .inr (1, 6, .inr (.inl (fun _ => 0)))])) rfl ?_
  refine a_iinc (lv' := [(0, _), (1, _)]) q43_83 rfl rfl rfl rfl ?_
  refine a_goto (tgt := 63) q43_86 (by decide) ?_
  refine a_iload_n (i := 1) q43_63 rfl rfl ?_
  refine a_bipush (v := 6) q43_64 (by decide) ?_
  refine a_icmp_ge (tgt := 89) q43_66 (by decide) (fun zc66_2 => absurd zc66_2 (by decide)) (fun zc66_2 => ?_)
  refine a_aload_n (i := 0) q43_69 rfl rfl ?_
  refine a_getfield q43_70 rfl rfl ?_
  refine a_iload_n (i := 1) q43_73 rfl rfl ?_
  refine a_iconst (v := (-1)) q43_74 (by decide) ?_
  refine a_iast' q43_75 rfl (j := 2) rfl (by decide) (by decide) (h' := (hp I A L [.inl (7, dfl 7), .inl (5, [.ref 24, .ref 25, .ref 26, .ref 27, .ref 28, .ref 29, .ref 30, .int 0]), .inr (0, 240, .inl (fun _ => 0)), .inr (0, 6, .inl (upd (upd (upd (fun _ => 0) 0 (-1)) 1 (-1)) 2 (-1))), .inr (0, 6, .inl (upd (upd (fun _ => 0) 0 0) 1 0)), .inr (0, 6, .inl (fun _ => 0)), .inr (0, 6, .inl (fun _ => 0)), .inr (1, 6, .inr (.inl (fun _ => 0))), .inr (1, 6, .inr (.inl (fun _ => 0)))])) rfl ?_
  refine a_aload_n (i := 0) q43_76 rfl rfl ?_
  refine a_getfield q43_77 rfl rfl ?_
  refine a_iload_n (i := 1) q43_80 rfl rfl ?_
  refine a_iconst (v := 0) q43_81 (by decide) ?_
  refine a_iast' q43_82 rfl (j := 2) rfl (by decide) (by decide) (h' := (hp I A L [.inl (7, dfl 7), .inl (5, [.ref 24, .ref 25, .ref 26, .ref 27, .ref 28, .ref 29, .ref 30, .int 0]), .inr (0, 240, .inl (fun _ => 0)), .inr (0, 6, .inl (upd (upd (upd (fun _ => 0) 0 (-1)) 1 (-1)) 2 (-1))), .inr (0, 6, .inl (upd (upd (upd (fun _ => 0) 0 0) 1 0) 2 0)), .inr (0, 6, .inl (fun _ => 0)), .inr (0, 6, .inl (fun _ => 0)), .inr (1, 6, .inr (.inl (fun _ => 0))), .inr (1, 6, .inr (.inl (fun _ => 0)))])) rfl ?_
  refine a_iinc (lv' := [(0, _), (1, _)]) q43_83 rfl rfl rfl rfl ?_
  refine a_goto (tgt := 63) q43_86 (by decide) ?_
  refine a_iload_n (i := 1) q43_63 rfl rfl ?_
  refine a_bipush (v := 6) q43_64 (by decide) ?_
  refine a_icmp_ge (tgt := 89) q43_66 (by decide) (fun zc66_3 => absurd zc66_3 (by decide)) (fun zc66_3 => ?_)
  refine a_aload_n (i := 0) q43_69 rfl rfl ?_
  refine a_getfield q43_70 rfl rfl ?_
  refine a_iload_n (i := 1) q43_73 rfl rfl ?_
  refine a_iconst (v := (-1)) q43_74 (by decide) ?_
  refine a_iast' q43_75 rfl (j := 3) rfl (by decide) (by decide) (h' := (hp I A L [.inl (7, dfl 7), .inl (5, [.ref 24, .ref 25, .ref 26, .ref 27, .ref 28, .ref 29, .ref 30, .int 0]), .inr (0, 240, .inl (fun _ => 0)), .inr (0, 6, .inl (upd (upd (upd (upd (fun _ => 0) 0 (-1)) 1 (-1)) 2 (-1)) 3 (-1))), .inr (0, 6, .inl (upd (upd (upd (fun _ => 0) 0 0) 1 0) 2 0)), .inr (0, 6, .inl (fun _ => 0)), .inr (0, 6, .inl (fun _ => 0)), .inr (1, 6, .inr (.inl (fun _ => 0))), .inr (1, 6, .inr (.inl (fun _ => 0)))])) rfl ?_
  refine a_aload_n (i := 0) q43_76 rfl rfl ?_
  refine a_getfield q43_77 rfl rfl ?_
  refine a_iload_n (i := 1) q43_80 rfl rfl ?_
  refine a_iconst (v := 0) q43_81 (by decide) ?_
  refine a_iast' q43_82 rfl (j := 3) rfl (by decide) (by decide) (h' := (hp I A L [.inl (7, dfl 7), .inl (5, [.ref 24, .ref 25, .ref 26, .ref 27, .ref 28, .ref 29, .ref 30, .int 0]), .inr (0, 240, .inl (fun _ => 0)), .inr (0, 6, .inl (upd (upd (upd (upd (fun _ => 0) 0 (-1)) 1 (-1)) 2 (-1)) 3 (-1))), .inr (0, 6, .inl (upd (upd (upd (upd (fun _ => 0) 0 0) 1 0) 2 0) 3 0)), .inr (0, 6, .inl (fun _ => 0)), .inr (0, 6, .inl (fun _ => 0)), .inr (1, 6, .inr (.inl (fun _ => 0))), .inr (1, 6, .inr (.inl (fun _ => 0)))])) rfl ?_
  refine a_iinc (lv' := [(0, _), (1, _)]) q43_83 rfl rfl rfl rfl ?_
  refine a_goto (tgt := 63) q43_86 (by decide) ?_
  refine a_iload_n (i := 1) q43_63 rfl rfl ?_
  refine a_bipush (v := 6) q43_64 (by decide) ?_
  refine a_icmp_ge (tgt := 89) q43_66 (by decide) (fun zc66_4 => absurd zc66_4 (by decide)) (fun zc66_4 => ?_)
  refine a_aload_n (i := 0) q43_69 rfl rfl ?_
  refine a_getfield q43_70 rfl rfl ?_
  refine a_iload_n (i := 1) q43_73 rfl rfl ?_
  refine a_iconst (v := (-1)) q43_74 (by decide) ?_
  refine a_iast' q43_75 rfl (j := 4) rfl (by decide) (by decide) (h' := (hp I A L [.inl (7, dfl 7), .inl (5, [.ref 24, .ref 25, .ref 26, .ref 27, .ref 28, .ref 29, .ref 30, .int 0]), .inr (0, 240, .inl (fun _ => 0)), .inr (0, 6, .inl (upd (upd (upd (upd (upd (fun _ => 0) 0 (-1)) 1 (-1)) 2 (-1)) 3 (-1)) 4 (-1))), .inr (0, 6, .inl (upd (upd (upd (upd (fun _ => 0) 0 0) 1 0) 2 0) 3 0)), .inr (0, 6, .inl (fun _ => 0)), .inr (0, 6, .inl (fun _ => 0)), .inr (1, 6, .inr (.inl (fun _ => 0))), .inr (1, 6, .inr (.inl (fun _ => 0)))])) rfl ?_
  refine a_aload_n (i := 0) q43_76 rfl rfl ?_
  refine a_getfield q43_77 rfl rfl ?_
  refine a_iload_n (i := 1) q43_80 rfl rfl ?_
  refine a_iconst (v := 0) q43_81 (by decide) ?_
  refine a_iast' q43_82 rfl (j := 4) rfl (by decide) (by decide) (h' := (hp I A L [.inl (7, dfl 7), .inl (5, [.ref 24, .ref 25, .ref 26, .ref 27, .ref 28, .ref 29, .ref 30, .int 0]), .inr (0, 240, .inl (fun _ => 0)), .inr (0, 6, .inl (upd (upd (upd (upd (upd (fun _ => 0) 0 (-1)) 1 (-1)) 2 (-1)) 3 (-1)) 4 (-1))), .inr (0, 6, .inl (upd (upd (upd (upd (upd (fun _ => 0) 0 0) 1 0) 2 0) 3 0) 4 0)), .inr (0, 6, .inl (fun _ => 0)), .inr (0, 6, .inl (fun _ => 0)), .inr (1, 6, .inr (.inl (fun _ => 0))), .inr (1, 6, .inr (.inl (fun _ => 0)))])) rfl ?_
  refine a_iinc (lv' := [(0, _), (1, _)]) q43_83 rfl rfl rfl rfl ?_
  refine a_goto (tgt := 63) q43_86 (by decide) ?_
  refine a_iload_n (i := 1) q43_63 rfl rfl ?_
  refine a_bipush (v := 6) q43_64 (by decide) ?_
  refine a_icmp_ge (tgt := 89) q43_66 (by decide) (fun zc66_5 => absurd zc66_5 (by decide)) (fun zc66_5 => ?_)
  refine a_aload_n (i := 0) q43_69 rfl rfl ?_
  refine a_getfield q43_70 rfl rfl ?_
  refine a_iload_n (i := 1) q43_73 rfl rfl ?_
  refine a_iconst (v := (-1)) q43_74 (by decide) ?_
  refine a_iast' q43_75 rfl (j := 5) rfl (by decide) (by decide) (h' := (hp I A L [.inl (7, dfl 7), .inl (5, [.ref 24, .ref 25, .ref 26, .ref 27, .ref 28, .ref 29, .ref 30, .int 0]), .inr (0, 240, .inl (fun _ => 0)), .inr (0, 6, .inl (upd (upd (upd (upd (upd (upd (fun _ => 0) 0 (-1)) 1 (-1)) 2 (-1)) 3 (-1)) 4 (-1)) 5 (-1))), .inr (0, 6, .inl (upd (upd (upd (upd (upd (fun _ => 0) 0 0) 1 0) 2 0) 3 0) 4 0)), .inr (0, 6, .inl (fun _ => 0)), .inr (0, 6, .inl (fun _ => 0)), .inr (1, 6, .inr (.inl (fun _ => 0))), .inr (1, 6, .inr (.inl (fun _ => 0)))])) rfl ?_
  refine a_aload_n (i := 0) q43_76 rfl rfl ?_
  refine a_getfield q43_77 rfl rfl ?_
  refine a_iload_n (i := 1) q43_80 rfl rfl ?_
  refine a_iconst (v := 0) q43_81 (by decide) ?_
  refine a_iast' q43_82 rfl (j := 5) rfl (by decide) (by decide) (h' := (hp I A L [.inl (7, dfl 7), .inl (5, [.ref 24, .ref 25, .ref 26, .ref 27, .ref 28, .ref 29, .ref 30, .int 0]), .inr (0, 240, .inl (fun _ => 0)), .inr (0, 6, .inl (upd (upd (upd (upd (upd (upd (fun _ => 0) 0 (-1)) 1 (-1)) 2 (-1)) 3 (-1)) 4 (-1)) 5 (-1))), .inr (0, 6, .inl (upd (upd (upd (upd (upd (upd (fun _ => 0) 0 0) 1 0) 2 0) 3 0) 4 0) 5 0)), .inr (0, 6, .inl (fun _ => 0)), .inr (0, 6, .inl (fun _ => 0)), .inr (1, 6, .inr (.inl (fun _ => 0))), .inr (1, 6, .inr (.inl (fun _ => 0)))])) rfl ?_
  refine a_iinc (lv' := [(0, _), (1, _)]) q43_83 rfl rfl rfl rfl ?_
  refine a_goto (tgt := 63) q43_86 (by decide) ?_
  refine a_iload_n (i := 1) q43_63 rfl rfl ?_
  refine a_bipush (v := 6) q43_64 (by decide) ?_
  refine a_icmp_ge (tgt := 89) q43_66 (by decide) (fun zc66_6 => ?_) (fun zc66_6 => absurd (by decide) zc66_6)
  refine a_return q43_89 rfl ?_
  exact hq

theorem c_X3_init_w {X : XS} {I : Nat → Int32} {A : Nat → Nat → Int32} {L : Nat → Nat → Int64} {Q : AO → AH → Prop}  (hq : Q (.inl none) (hp I A L [.inl (7, [.ref 23, .null, .null, .null, .null, .null, .int 0, .int 0]), .inl (5, [.ref 24, .ref 25, .ref 26, .ref 27, .ref 28, .ref 29, .ref 30, .int 0]), .inr (0, 240, .inl (fun _ => 0)), .inr (0, 6, .inl A3_0), .inr (0, 6, .inl A4_0), .inr (0, 6, .inl (fun _ => 0)), .inr (0, 6, .inl (fun _ => 0)), .inr (1, 6, .inr (.inl (fun _ => 0))), .inr (1, 6, .inr (.inl (fun _ => 0))), .inl (2, [.ref 23, .int 0, .int 45, .int 0])])) : Call X 23 [.ref 31, .ref 23] (hp I A L [.inl (7, [.ref 23, .null, .null, .null, .null, .null, .int 0, .int 0]), .inl (5, [.ref 24, .ref 25, .ref 26, .ref 27, .ref 28, .ref 29, .ref 30, .int 0]), .inr (0, 240, .inl (fun _ => 0)), .inr (0, 6, .inl A3_0), .inr (0, 6, .inl A4_0), .inr (0, 6, .inl (fun _ => 0)), .inr (0, 6, .inl (fun _ => 0)), .inr (1, 6, .inr (.inl (fun _ => 0))), .inr (1, 6, .inr (.inl (fun _ => 0))), .inl (2, dfl 2)]) Q := by
  refine call_of (by decide) rfl rfl ?_
  refine a_aload_n (i := 0) q23_0 rfl rfl ?_
  refine a_objInit q23_1 rfl ?_
  refine a_aload_n (i := 0) q23_4 rfl rfl ?_
  refine a_aload_n (i := 1) q23_5 rfl rfl ?_
  refine a_putfield q23_6 rfl rfl rfl rfl ?_
  refine AW.hp (h' := (hp I A L [.inl (7, [.ref 23, .null, .null, .null, .null, .null, .int 0, .int 0]), .inl (5, [.ref 24, .ref 25, .ref 26, .ref 27, .ref 28, .ref 29, .ref 30, .int 0]), .inr (0, 240, .inl (fun _ => 0)), .inr (0, 6, .inl A3_0), .inr (0, 6, .inl A4_0), .inr (0, 6, .inl (fun _ => 0)), .inr (0, 6, .inl (fun _ => 0)), .inr (1, 6, .inr (.inl (fun _ => 0))), .inr (1, 6, .inr (.inl (fun _ => 0))), .inl (2, [.ref 23, .int 0, .int 0, .int 0])])) rfl ?_
  refine a_aload_n (i := 0) q23_9 rfl rfl ?_
  refine a_bipush (v := 45) q23_10 (by decide) ?_
  refine a_putfield q23_12 rfl rfl rfl rfl ?_
  refine AW.hp (h' := (hp I A L [.inl (7, [.ref 23, .null, .null, .null, .null, .null, .int 0, .int 0]), .inl (5, [.ref 24, .ref 25, .ref 26, .ref 27, .ref 28, .ref 29, .ref 30, .int 0]), .inr (0, 240, .inl (fun _ => 0)), .inr (0, 6, .inl A3_0), .inr (0, 6, .inl A4_0), .inr (0, 6, .inl (fun _ => 0)), .inr (0, 6, .inl (fun _ => 0)), .inr (1, 6, .inr (.inl (fun _ => 0))), .inr (1, 6, .inr (.inl (fun _ => 0))), .inl (2, [.ref 23, .int 0, .int 45, .int 0])])) rfl ?_
  refine a_return q23_15 rfl ?_
  exact hq

theorem c_X2_init_w {X : XS} {I : Nat → Int32} {A : Nat → Nat → Int32} {L : Nat → Nat → Int64} {Q : AO → AH → Prop}  (hq : Q (.inl none) (hp I A L [.inl (7, [.ref 23, .ref 31, .null, .null, .null, .null, .int 0, .int 0]), .inl (5, [.ref 24, .ref 25, .ref 26, .ref 27, .ref 28, .ref 29, .ref 30, .int 0]), .inr (0, 240, .inl (fun _ => 0)), .inr (0, 6, .inl A3_0), .inr (0, 6, .inl A4_0), .inr (0, 6, .inl (fun _ => 0)), .inr (0, 6, .inl (fun _ => 0)), .inr (1, 6, .inr (.inl (fun _ => 0))), .inr (1, 6, .inr (.inl (fun _ => 0))), .inl (2, [.ref 23, .int 0, .int 45, .int 0]), .inl (1, [.ref 23, .ref 33]), .inr (0, 8, .inl ro_w)])) : Call X 16 [.ref 32, .ref 23] (hp I A L [.inl (7, [.ref 23, .ref 31, .null, .null, .null, .null, .int 0, .int 0]), .inl (5, [.ref 24, .ref 25, .ref 26, .ref 27, .ref 28, .ref 29, .ref 30, .int 0]), .inr (0, 240, .inl (fun _ => 0)), .inr (0, 6, .inl A3_0), .inr (0, 6, .inl A4_0), .inr (0, 6, .inl (fun _ => 0)), .inr (0, 6, .inl (fun _ => 0)), .inr (1, 6, .inr (.inl (fun _ => 0))), .inr (1, 6, .inr (.inl (fun _ => 0))), .inl (2, [.ref 23, .int 0, .int 45, .int 0]), .inl (1, dfl 1)]) Q := by
  refine call_of (by decide) rfl rfl ?_
  refine a_aload_n (i := 0) q16_0 rfl rfl ?_
  refine a_objInit q16_1 rfl ?_
  refine a_aload_n (i := 0) q16_4 rfl rfl ?_
  refine a_aload_n (i := 1) q16_5 rfl rfl ?_
  refine a_putfield q16_6 rfl rfl rfl rfl ?_
  refine AW.hp (h' := (hp I A L [.inl (7, [.ref 23, .ref 31, .null, .null, .null, .null, .int 0, .int 0]), .inl (5, [.ref 24, .ref 25, .ref 26, .ref 27, .ref 28, .ref 29, .ref 30, .int 0]), .inr (0, 240, .inl (fun _ => 0)), .inr (0, 6, .inl A3_0), .inr (0, 6, .inl A4_0), .inr (0, 6, .inl (fun _ => 0)), .inr (0, 6, .inl (fun _ => 0)), .inr (1, 6, .inr (.inl (fun _ => 0))), .inr (1, 6, .inr (.inl (fun _ => 0))), .inl (2, [.ref 23, .int 0, .int 45, .int 0]), .inl (1, [.ref 23, .null])])) rfl ?_
  refine a_aload_n (i := 0) q16_9 rfl rfl ?_
  refine a_getstatic q16_10 ?_
  refine a_clone (kn := 33) q16_13 rfl rfl (by decide) rfl ⟨rfl, rfl⟩ ?_
  refine a_castI q16_16 rfl ?_
  refine a_putfield q16_19 rfl rfl rfl rfl ?_
  refine AW.hp (h' := (hp I A L [.inl (7, [.ref 23, .ref 31, .null, .null, .null, .null, .int 0, .int 0]), .inl (5, [.ref 24, .ref 25, .ref 26, .ref 27, .ref 28, .ref 29, .ref 30, .int 0]), .inr (0, 240, .inl (fun _ => 0)), .inr (0, 6, .inl A3_0), .inr (0, 6, .inl A4_0), .inr (0, 6, .inl (fun _ => 0)), .inr (0, 6, .inl (fun _ => 0)), .inr (1, 6, .inr (.inl (fun _ => 0))), .inr (1, 6, .inr (.inl (fun _ => 0))), .inl (2, [.ref 23, .int 0, .int 45, .int 0]), .inl (1, [.ref 23, .ref 33]), .inr (0, 8, .inl ro_w)])) rfl ?_
  refine a_return q16_22 rfl ?_
  exact hq

theorem c_X0_init_1_w {X : XS} {I : Nat → Int32} {A : Nat → Nat → Int32} {L : Nat → Nat → Int64} {Q : AO → AH → Prop}  (hq : Q (.inl none) (hp I A L [.inl (7, [.ref 23, .ref 31, .ref 32, .null, .null, .null, .int 0, .int 0]), .inl (5, [.ref 24, .ref 25, .ref 26, .ref 27, .ref 28, .ref 29, .ref 30, .int 0]), .inr (0, 240, .inl (fun _ => 0)), .inr (0, 6, .inl A3_0), .inr (0, 6, .inl A4_0), .inr (0, 6, .inl (fun _ => 0)), .inr (0, 6, .inl (fun _ => 0)), .inr (1, 6, .inr (.inl (fun _ => 0))), .inr (1, 6, .inr (.inl (fun _ => 0))), .inl (2, [.ref 23, .int 0, .int 45, .int 0]), .inl (1, [.ref 23, .ref 33]), .inr (0, 8, .inl ro_w), .inl (4, dfl 4), .inl (0, [.ref 36, .int 0]), .inr (1, 5, .inr (.inl (fun _ => 0)))])) : Call X 0 [.ref 35] (hp I A L [.inl (7, [.ref 23, .ref 31, .ref 32, .null, .null, .null, .int 0, .int 0]), .inl (5, [.ref 24, .ref 25, .ref 26, .ref 27, .ref 28, .ref 29, .ref 30, .int 0]), .inr (0, 240, .inl (fun _ => 0)), .inr (0, 6, .inl A3_0), .inr (0, 6, .inl A4_0), .inr (0, 6, .inl (fun _ => 0)), .inr (0, 6, .inl (fun _ => 0)), .inr (1, 6, .inr (.inl (fun _ => 0))), .inr (1, 6, .inr (.inl (fun _ => 0))), .inl (2, [.ref 23, .int 0, .int 45, .int 0]), .inl (1, [.ref 23, .ref 33]), .inr (0, 8, .inl ro_w), .inl (4, dfl 4), .inl (0, dfl 0)]) Q := by
  refine call_of (by decide) rfl rfl ?_
  refine a_aload_n (i := 0) q0_0 rfl rfl ?_
  refine a_objInit q0_1 rfl ?_
  refine a_aload_n (i := 0) q0_4 rfl rfl ?_
  refine a_iconst (v := 5) q0_5 (by decide) ?_
  refine a_newarray (a := 1) (kn := 36) (N := 5) q0_6 (by decide) rfl (by decide) rfl (by decide) rfl ⟨rfl, rfl⟩ ?_
  refine a_putfield q0_8 rfl rfl rfl rfl ?_
  refine AW.hp (h' := (hp I A L [.inl (7, [.ref 23, .ref 31, .ref 32, .null, .null, .null, .int 0, .int 0]), .inl (5, [.ref 24, .ref 25, .ref 26, .ref 27, .ref 28, .ref 29, .ref 30, .int 0]), .inr (0, 240, .inl (fun _ => 0)), .inr (0, 6, .inl A3_0), .inr (0, 6, .inl A4_0), .inr (0, 6, .inl (fun _ => 0)), .inr (0, 6, .inl (fun _ => 0)), .inr (1, 6, .inr (.inl (fun _ => 0))), .inr (1, 6, .inr (.inl (fun _ => 0))), .inl (2, [.ref 23, .int 0, .int 45, .int 0]), .inl (1, [.ref 23, .ref 33]), .inr (0, 8, .inl ro_w), .inl (4, dfl 4), .inl (0, [.ref 36, .int 0]), .inr (1, 5, .inr (.inl (fun _ => 0)))])) rfl ?_
  refine a_return q0_11 rfl ?_
  exact hq

theorem c_X0_init_2_w {X : XS} {I : Nat → Int32} {A : Nat → Nat → Int32} {L : Nat → Nat → Int64} {Q : AO → AH → Prop}  (hq : Q (.inl none) (hp I A L [.inl (7, [.ref 23, .ref 31, .ref 32, .ref 34, .null, .null, .int 0, .int 0]), .inl (5, [.ref 24, .ref 25, .ref 26, .ref 27, .ref 28, .ref 29, .ref 30, .int 0]), .inr (0, 240, .inl (fun _ => 0)), .inr (0, 6, .inl A3_0), .inr (0, 6, .inl A4_0), .inr (0, 6, .inl (fun _ => 0)), .inr (0, 6, .inl (fun _ => 0)), .inr (1, 6, .inr (.inl (fun _ => 0))), .inr (1, 6, .inr (.inl (fun _ => 0))), .inl (2, [.ref 23, .int 0, .int 45, .int 0]), .inl (1, [.ref 23, .ref 33]), .inr (0, 8, .inl ro_w), .inl (4, [.ref 31, .ref 32, .ref 35, .int 1]), .inl (0, [.ref 36, .int 0]), .inr (1, 5, .inr (.inl (fun _ => 0))), .inl (6, dfl 6), .inl (0, [.ref 39, .int 0]), .inr (1, 5, .inr (.inl (fun _ => 0)))])) : Call X 0 [.ref 38] (hp I A L [.inl (7, [.ref 23, .ref 31, .ref 32, .ref 34, .null, .null, .int 0, .int 0]), .inl (5, [.ref 24, .ref 25, .ref 26, .ref 27, .ref 28, .ref 29, .ref 30, .int 0]), .inr (0, 240, .inl (fun _ => 0)), .inr (0, 6, .inl A3_0), .inr (0, 6, .inl A4_0), .inr (0, 6, .inl (fun _ => 0)), .inr (0, 6, .inl (fun _ => 0)), .inr (1, 6, .inr (.inl (fun _ => 0))), .inr (1, 6, .inr (.inl (fun _ => 0))), .inl (2, [.ref 23, .int 0, .int 45, .int 0]), .inl (1, [.ref 23, .ref 33]), .inr (0, 8, .inl ro_w), .inl (4, [.ref 31, .ref 32, .ref 35, .int 1]), .inl (0, [.ref 36, .int 0]), .inr (1, 5, .inr (.inl (fun _ => 0))), .inl (6, dfl 6), .inl (0, dfl 0)]) Q := by
  refine call_of (by decide) rfl rfl ?_
  refine a_aload_n (i := 0) q0_0 rfl rfl ?_
  refine a_objInit q0_1 rfl ?_
  refine a_aload_n (i := 0) q0_4 rfl rfl ?_
  refine a_iconst (v := 5) q0_5 (by decide) ?_
  refine a_newarray (a := 1) (kn := 39) (N := 5) q0_6 (by decide) rfl (by decide) rfl (by decide) rfl ⟨rfl, rfl⟩ ?_
  refine a_putfield q0_8 rfl rfl rfl rfl ?_
  refine AW.hp (h' := (hp I A L [.inl (7, [.ref 23, .ref 31, .ref 32, .ref 34, .null, .null, .int 0, .int 0]), .inl (5, [.ref 24, .ref 25, .ref 26, .ref 27, .ref 28, .ref 29, .ref 30, .int 0]), .inr (0, 240, .inl (fun _ => 0)), .inr (0, 6, .inl A3_0), .inr (0, 6, .inl A4_0), .inr (0, 6, .inl (fun _ => 0)), .inr (0, 6, .inl (fun _ => 0)), .inr (1, 6, .inr (.inl (fun _ => 0))), .inr (1, 6, .inr (.inl (fun _ => 0))), .inl (2, [.ref 23, .int 0, .int 45, .int 0]), .inl (1, [.ref 23, .ref 33]), .inr (0, 8, .inl ro_w), .inl (4, [.ref 31, .ref 32, .ref 35, .int 1]), .inl (0, [.ref 36, .int 0]), .inr (1, 5, .inr (.inl (fun _ => 0))), .inl (6, dfl 6), .inl (0, [.ref 39, .int 0]), .inr (1, 5, .inr (.inl (fun _ => 0)))])) rfl ?_
  refine a_return q0_11 rfl ?_
  exact hq

theorem c_X6_init_w {X : XS} {I : Nat → Int32} {A : Nat → Nat → Int32} {L : Nat → Nat → Int64} {Q : AO → AH → Prop}  (hq : Q (.inl none) (hp I A L [.inl (7, [.ref 23, .ref 31, .ref 32, .null, .null, .null, .int 0, .int 0]), .inl (5, [.ref 24, .ref 25, .ref 26, .ref 27, .ref 28, .ref 29, .ref 30, .int 0]), .inr (0, 240, .inl (fun _ => 0)), .inr (0, 6, .inl A3_0), .inr (0, 6, .inl A4_0), .inr (0, 6, .inl (fun _ => 0)), .inr (0, 6, .inl (fun _ => 0)), .inr (1, 6, .inr (.inl (fun _ => 0))), .inr (1, 6, .inr (.inl (fun _ => 0))), .inl (2, [.ref 23, .int 0, .int 45, .int 0]), .inl (1, [.ref 23, .ref 33]), .inr (0, 8, .inl ro_w), .inl (4, [.ref 31, .ref 32, .ref 35, .int 1]), .inl (0, [.ref 36, .int 0]), .inr (1, 5, .inr (.inl (fun _ => 0)))])) : Call X 37 [.ref 34, .ref 31, .ref 32] (hp I A L [.inl (7, [.ref 23, .ref 31, .ref 32, .null, .null, .null, .int 0, .int 0]), .inl (5, [.ref 24, .ref 25, .ref 26, .ref 27, .ref 28, .ref 29, .ref 30, .int 0]), .inr (0, 240, .inl (fun _ => 0)), .inr (0, 6, .inl A3_0), .inr (0, 6, .inl A4_0), .inr (0, 6, .inl (fun _ => 0)), .inr (0, 6, .inl (fun _ => 0)), .inr (1, 6, .inr (.inl (fun _ => 0))), .inr (1, 6, .inr (.inl (fun _ => 0))), .inl (2, [.ref 23, .int 0, .int 45, .int 0]), .inl (1, [.ref 23, .ref 33]), .inr (0, 8, .inl ro_w), .inl (4, dfl 4)]) Q := by
  refine call_of (by decide) rfl rfl ?_
  refine a_aload_n (i := 0) q37_0 rfl rfl ?_
  refine a_objInit q37_1 rfl ?_
  refine a_aload_n (i := 0) q37_4 rfl rfl ?_
  refine a_new (a := 0) (kn := 35) q37_5 rfl (by decide) rfl ⟨rfl, rfl⟩ ?_
  refine a_dup q37_8 rfl ?_
  refine a_callI (as := []) q37_9 rfl rfl ⟨rfl, rfl⟩ (Or.inr ⟨rfl, rfl, rfl⟩) (c_X0_init_1_w (ck_v ?_))
  refine a_putfield q37_12 rfl rfl rfl rfl ?_
  refine AW.hp (h' := (hp I A L [.inl (7, [.ref 23, .ref 31, .ref 32, .null, .null, .null, .int 0, .int 0]), .inl (5, [.ref 24, .ref 25, .ref 26, .ref 27, .ref 28, .ref 29, .ref 30, .int 0]), .inr (0, 240, .inl (fun _ => 0)), .inr (0, 6, .inl A3_0), .inr (0, 6, .inl A4_0), .inr (0, 6, .inl (fun _ => 0)), .inr (0, 6, .inl (fun _ => 0)), .inr (1, 6, .inr (.inl (fun _ => 0))), .inr (1, 6, .inr (.inl (fun _ => 0))), .inl (2, [.ref 23, .int 0, .int 45, .int 0]), .inl (1, [.ref 23, .ref 33]), .inr (0, 8, .inl ro_w), .inl (4, [.null, .null, .ref 35, .int 0]), .inl (0, [.ref 36, .int 0]), .inr (1, 5, .inr (.inl (fun _ => 0)))])) rfl ?_
  refine a_aload_n (i := 0) q37_15 rfl rfl ?_
  refine a_iconst (v := 1) q37_16 (by decide) ?_
  refine a_putfield q37_17 rfl rfl rfl rfl ?_
  refine AW.hp (h' := (hp I A L [.inl (7, [.ref 23, .ref 31, .ref 32, .null, .null, .null, .int 0, .int 0]), .inl (5, [.ref 24, .ref 25, .ref 26, .ref 27, .ref 28, .ref 29, .ref 30, .int 0]), .inr (0, 240, .inl (fun _ => 0)), .inr (0, 6, .inl A3_0), .inr (0, 6, .inl A4_0), .inr (0, 6, .inl (fun _ => 0)), .inr (0, 6, .inl (fun _ => 0)), .inr (1, 6, .inr (.inl (fun _ => 0))), .inr (1, 6, .inr (.inl (fun _ => 0))), .inl (2, [.ref 23, .int 0, .int 45, .int 0]), .inl (1, [.ref 23, .ref 33]), .inr (0, 8, .inl ro_w), .inl (4, [.null, .null, .ref 35, .int 1]), .inl (0, [.ref 36, .int 0]), .inr (1, 5, .inr (.inl (fun _ => 0)))])) rfl ?_
  refine a_aload_n (i := 0) q37_20 rfl rfl ?_
  refine a_aload_n (i := 1) q37_21 rfl rfl ?_
  refine a_putfield q37_22 rfl rfl rfl rfl ?_
  refine AW.hp (h' := (hp I A L [.inl (7, [.ref 23, .ref 31, .ref 32, .null, .null, .null, .int 0, .int 0]), .inl (5, [.ref 24, .ref 25, .ref 26, .ref 27, .ref 28, .ref 29, .ref 30, .int 0]), .inr (0, 240, .inl (fun _ => 0)), .inr (0, 6, .inl A3_0), .inr (0, 6, .inl A4_0), .inr (0, 6, .inl (fun _ => 0)), .inr (0, 6, .inl (fun _ => 0)), .inr (1, 6, .inr (.inl (fun _ => 0))), .inr (1, 6, .inr (.inl (fun _ => 0))), .inl (2, [.ref 23, .int 0, .int 45, .int 0]), .inl (1, [.ref 23, .ref 33]), .inr (0, 8, .inl ro_w), .inl (4, [.ref 31, .null, .ref 35, .int 1]), .inl (0, [.ref 36, .int 0]), .inr (1, 5, .inr (.inl (fun _ => 0)))])) rfl ?_
  refine a_aload_n (i := 0) q37_25 rfl rfl ?_
  refine a_aload_n (i := 2) q37_26 rfl rfl ?_
  refine a_putfield q37_27 rfl rfl rfl rfl ?_
  refine AW.hp (h' := (hp I A L [.inl (7, [.ref 23, .ref 31, .ref 32, .null, .null, .null, .int 0, .int 0]), .inl (5, [.ref 24, .ref 25, .ref 26, .ref 27, .ref 28, .ref 29, .ref 30, .int 0]), .inr (0, 240, .inl (fun _ => 0)), .inr (0, 6, .inl A3_0), .inr (0, 6, .inl A4_0), .inr (0, 6, .inl (fun _ => 0)), .inr (0, 6, .inl (fun _ => 0)), .inr (1, 6, .inr (.inl (fun _ => 0))), .inr (1, 6, .inr (.inl (fun _ => 0))), .inl (2, [.ref 23, .int 0, .int 45, .int 0]), .inl (1, [.ref 23, .ref 33]), .inr (0, 8, .inl ro_w), .inl (4, [.ref 31, .ref 32, .ref 35, .int 1]), .inl (0, [.ref 36, .int 0]), .inr (1, 5, .inr (.inl (fun _ => 0)))])) rfl ?_
  refine a_return q37_30 rfl ?_
  exact hq

def h18_w (I : Nat → Int32) (A : Nat → Nat → Int32) (L : Nat → Nat → Int64) : AH := (hp I A L [.inl (7, [.ref 23, .ref 31, .ref 32, .ref 34, .null, .null, .int 0, .int 0]), .inl (5, [.ref 24, .ref 25, .ref 26, .ref 27, .ref 28, .ref 29, .ref 30, .int 0]), .inr (0, 240, .inl (fun _ => 0)), .inr (0, 6, .inl A3_0), .inr (0, 6, .inl A4_0), .inr (0, 6, .inl (fun _ => 0)), .inr (0, 6, .inl (fun _ => 0)), .inr (1, 6, .inr (.inl (fun _ => 0))), .inr (1, 6, .inr (.inl (fun _ => 0))), .inl (2, [.ref 23, .int 0, .int 45, .int 0]), .inl (1, [.ref 23, .ref 33]), .inr (0, 8, .inl ro_w), .inl (4, [.ref 31, .ref 32, .ref 35, .int 1]), .inl (0, [.ref 36, .int 0]), .inr (1, 5, .inr (.inl (fun _ => 0))), .inl (6, [.ref 31, .ref 32, .ref 38, .null, .int 0, .int 0]), .inl (0, [.ref 39, .int 0]), .inr (1, 5, .inr (.inl (fun _ => 0)))])
theorem l_list_w (m : Nat) : ∀ {X : XS} {h : AH} {I : Nat → Int32} {A : Nat → Nat → Int32} {L : Nat → Nat → Int64} {Q : AO → AH → Prop} {s : (Nat → Int32) × Nat} {F : Nat → Int32} {i : Nat} (hk : s.2 ≤ 1045) (hm : i + m = 4096) (hF : (fl plS m i s).1 = F) (hq : Q (.inl (some (.ref 40))) ((h18_w I A L) ++ [.inr (0, 1045, .inl F)])), AW X 70 10 [(0, .ref 40), (1, .int (nI s.2)), (2, .int (nI i))] [] ((h18_w I A L) ++ [.inr (0, 1045, .inl s.1)]) 0 0 Q := by
  induction m with
  | zero =>
    intro X h I A L Q s F i hk hm hF hq
    refine a_iload_n (i := 2) q70_10 rfl rfl ?_
    refine a_sipush (v := 4096) q70_11 (by decide) ?_
    refine a_icmp_ge (tgt := 43) q70_14 (by decide) (fun zc14 => ?_) (fun zc14 => absurd (nI_le (show 4096 ≤ i by omega) (by omega)) zc14)
    refine a_aload_n (i := 0) q70_43 rfl rfl ?_
    refine a_areturn q70_44 ⟨_, rfl, Or.inr ⟨_, rfl⟩⟩ ?_
    have hF2 : s.1 = F := hF
    rw [hF2]; exact hq
  | succ m ih =>
    intro X h I A L Q s F i hk hm hF hq
    refine a_iload_n (i := 2) q70_10 rfl rfl ?_
    refine a_sipush (v := 4096) q70_11 (by decide) ?_
    refine a_icmp_ge (tgt := 43) q70_14 (by decide) (fun zc14 => absurd zc14 (nI_ge (show i < 4096 by omega) (by decide))) (fun zc14 => ?_)
    refine a_iload_n (i := 1) q70_17 rfl rfl ?_
    refine a_aload_n (i := 0) q70_18 rfl rfl ?_
    refine a_alen (v := 1045) q70_19 rfl (by decide) rfl ?_
    refine a_icmp_ge (tgt := 37) q70_20 (by decide) (fun zc20 => ?_) (fun zc20 => ?_)
    · skip
      refine a_iinc (v := nI (i + 1)) (lv' := [(0, _), (1, _), (2, _)]) q70_37 rfl rfl (nI_1 (i)) rfl ?_
      refine a_goto (tgt := 10) q70_40 (by decide) ?_
      have ze : plS i s = s := if_neg (fun zz => nI_ge zz (by decide) zc20)
      rw [fl, ze] at hF
      exact ih (h := h) (s := s) hk (show i + 1 + m = 4096 by omega) hF hq
    · skip
      have zlt : s.2 < 1045 := Nat.lt_of_not_le (fun zz => zc20 (nI_le zz (by omega)))
      refine a_iload_n (i := 2) q70_23 rfl rfl ?_
      refine a_cs1 q70_24 rfl ⟨rfl, rfl⟩ rfl ?_
      refine c_X1_isPlacement ?_
      refine ck_r ?_
      refine a_if_eq (tgt := 37) q70_27 (by decide) (fun zc27 => ?_) (fun zc27 => ?_)
      · skip
        refine a_iinc (v := nI (i + 1)) (lv' := [(0, _), (1, _), (2, _)]) q70_37 rfl rfl (nI_1 (i)) rfl ?_
        refine a_goto (tgt := 10) q70_40 (by decide) ?_
        have ze : plS i s = s := (if_pos zlt).trans (if_pos zc27)
        rw [fl, ze] at hF
        exact ih (h := h) (s := s) hk (show i + 1 + m = 4096 by omega) hF hq
      · skip
        refine a_aload_n (i := 0) q70_30 rfl rfl ?_
        refine a_iload_n (i := 1) q70_31 rfl rfl ?_
        refine a_iload_n (i := 2) q70_32 rfl rfl ?_
        refine a_iast' q70_33 rfl (j := s.2) rfl zlt (by decide) (h' := (h18_w I A L) ++ [.inr (0, 1045, .inl (upd s.1 s.2 (nI i)))]) rfl ?_
        refine a_iinc (v := nI (s.2 + 1)) (lv' := [(0, _), (1, _), (2, _)]) q70_34 rfl rfl (nI_1 (s.2)) rfl ?_
        refine a_iinc (v := nI (i + 1)) (lv' := [(0, _), (1, _), (2, _)]) q70_37 rfl rfl (nI_1 (i)) rfl ?_
        refine a_goto (tgt := 10) q70_40 (by decide) ?_
        have ze : plS i s = (upd s.1 s.2 (nI i), s.2 + 1) := (if_pos zlt).trans (if_neg zc27)
        rw [fl, ze] at hF
        exact ih (h := h) (s := (upd s.1 s.2 (nI i), s.2 + 1)) zlt (show i + 1 + m = 4096 by omega) hF hq

theorem c_X8_listPlacements_w {X : XS} {I : Nat → Int32} {A : Nat → Nat → Int32} {L : Nat → Nat → Int64} {Q : AO → AH → Prop}  (hq : Q (.inl (some (.ref 40))) ((h18_w I A L) ++ [.inr (0, 1045, .inl PLC)])) : Call X 70 [] (h18_w I A L) Q := by
  refine call_of (by decide) rfl rfl ?_
  refine a_sipush (v := 1045) q70_0 (by decide) ?_
  refine a_newarray (a := 0) (kn := 40) (N := 1045) q70_3 (by decide) (nI_clamp (n := 1045) (by decide)) (by decide) rfl (by decide) rfl ⟨rfl, rfl⟩ ?_
  refine a_astore_n (i := 0) (lv' := [(0, _)]) q70_5 rfl rfl rfl ?_
  refine a_iconst (v := 0) q70_6 (by decide) ?_
  refine a_istore_n (i := 1) (lv' := [(0, _), (1, _)]) q70_7 rfl rfl rfl ?_
  refine a_iconst (v := 0) q70_8 (by decide) ?_
  refine a_istore_n (i := 2) (lv' := [(0, _), (1, _), (2, _)]) q70_9 rfl rfl rfl ?_
  refine AW.wide (bc' := 0) (bs' := 0) (Nat.zero_le _) (Nat.zero_le _) ?_
  refine AW.hp (h' := (h18_w I A L) ++ [.inr (0, 1045, .inl (fun _ => 0))]) rfl ?_
  exact l_list_w (h := []) 4096 (s := s00) (i := 0) (Nat.zero_le _) (Nat.zero_add _) PLC.eq_1.symm hq

/-! constructors, the rest -/
theorem c_X8_init_w {X : XS} {I : Nat → Int32} {A : Nat → Nat → Int32} {L : Nat → Nat → Int64} {Q : AO → AH → Prop}  (hq : Q (.inl none) (hp I A L [.inl (7, [.ref 23, .ref 31, .ref 32, .ref 34, .null, .null, .int 0, .int 0]), .inl (5, [.ref 24, .ref 25, .ref 26, .ref 27, .ref 28, .ref 29, .ref 30, .int 0]), .inr (0, 240, .inl (fun _ => 0)), .inr (0, 6, .inl A3_0), .inr (0, 6, .inl A4_0), .inr (0, 6, .inl (fun _ => 0)), .inr (0, 6, .inl (fun _ => 0)), .inr (1, 6, .inr (.inl (fun _ => 0))), .inr (1, 6, .inr (.inl (fun _ => 0))), .inl (2, [.ref 23, .int 0, .int 45, .int 0]), .inl (1, [.ref 23, .ref 33]), .inr (0, 8, .inl ro_w), .inl (4, [.ref 31, .ref 32, .ref 35, .int 1]), .inl (0, [.ref 36, .int 0]), .inr (1, 5, .inr (.inl (fun _ => 0))), .inl (6, [.ref 31, .ref 32, .ref 38, .ref 40, .int 0, .int 0]), .inl (0, [.ref 39, .int 0]), .inr (1, 5, .inr (.inl (fun _ => 0))), .inr (0, 1045, .inl PLC)])) : Call X 64 [.ref 37, .ref 31, .ref 32] (hp I A L [.inl (7, [.ref 23, .ref 31, .ref 32, .ref 34, .null, .null, .int 0, .int 0]), .inl (5, [.ref 24, .ref 25, .ref 26, .ref 27, .ref 28, .ref 29, .ref 30, .int 0]), .inr (0, 240, .inl (fun _ => 0)), .inr (0, 6, .inl A3_0), .inr (0, 6, .inl A4_0), .inr (0, 6, .inl (fun _ => 0)), .inr (0, 6, .inl (fun _ => 0)), .inr (1, 6, .inr (.inl (fun _ => 0))), .inr (1, 6, .inr (.inl (fun _ => 0))), .inl (2, [.ref 23, .int 0, .int 45, .int 0]), .inl (1, [.ref 23, .ref 33]), .inr (0, 8, .inl ro_w), .inl (4, [.ref 31, .ref 32, .ref 35, .int 1]), .inl (0, [.ref 36, .int 0]), .inr (1, 5, .inr (.inl (fun _ => 0))), .inl (6, dfl 6)]) Q := by
  refine call_of (by decide) rfl rfl ?_
  refine a_aload_n (i := 0) q64_0 rfl rfl ?_
  refine a_objInit q64_1 rfl ?_
  refine a_aload_n (i := 0) q64_4 rfl rfl ?_
  refine a_new (a := 0) (kn := 38) q64_5 rfl (by decide) rfl ⟨rfl, rfl⟩ ?_
  refine a_dup q64_8 rfl ?_
  refine a_callI (as := []) q64_9 rfl rfl ⟨rfl, rfl⟩ (Or.inr ⟨rfl, rfl, rfl⟩) (c_X0_init_2_w (ck_v ?_))
  refine a_putfield q64_12 rfl rfl rfl rfl ?_
  refine AW.hp (h' := (hp I A L [.inl (7, [.ref 23, .ref 31, .ref 32, .ref 34, .null, .null, .int 0, .int 0]), .inl (5, [.ref 24, .ref 25, .ref 26, .ref 27, .ref 28, .ref 29, .ref 30, .int 0]), .inr (0, 240, .inl (fun _ => 0)), .inr (0, 6, .inl A3_0), .inr (0, 6, .inl A4_0), .inr (0, 6, .inl (fun _ => 0)), .inr (0, 6, .inl (fun _ => 0)), .inr (1, 6, .inr (.inl (fun _ => 0))), .inr (1, 6, .inr (.inl (fun _ => 0))), .inl (2, [.ref 23, .int 0, .int 45, .int 0]), .inl (1, [.ref 23, .ref 33]), .inr (0, 8, .inl ro_w), .inl (4, [.ref 31, .ref 32, .ref 35, .int 1]), .inl (0, [.ref 36, .int 0]), .inr (1, 5, .inr (.inl (fun _ => 0))), .inl (6, [.null, .null, .ref 38, .null, .int 0, .int 0]), .inl (0, [.ref 39, .int 0]), .inr (1, 5, .inr (.inl (fun _ => 0)))])) rfl ?_
  refine a_aload_n (i := 0) q64_15 rfl rfl ?_
  refine a_aload_n (i := 1) q64_16 rfl rfl ?_
  refine a_putfield q64_17 rfl rfl rfl rfl ?_
  refine AW.hp (h' := (hp I A L [.inl (7, [.ref 23, .ref 31, .ref 32, .ref 34, .null, .null, .int 0, .int 0]), .inl (5, [.ref 24, .ref 25, .ref 26, .ref 27, .ref 28, .ref 29, .ref 30, .int 0]), .inr (0, 240, .inl (fun _ => 0)), .inr (0, 6, .inl A3_0), .inr (0, 6, .inl A4_0), .inr (0, 6, .inl (fun _ => 0)), .inr (0, 6, .inl (fun _ => 0)), .inr (1, 6, .inr (.inl (fun _ => 0))), .inr (1, 6, .inr (.inl (fun _ => 0))), .inl (2, [.ref 23, .int 0, .int 45, .int 0]), .inl (1, [.ref 23, .ref 33]), .inr (0, 8, .inl ro_w), .inl (4, [.ref 31, .ref 32, .ref 35, .int 1]), .inl (0, [.ref 36, .int 0]), .inr (1, 5, .inr (.inl (fun _ => 0))), .inl (6, [.ref 31, .null, .ref 38, .null, .int 0, .int 0]), .inl (0, [.ref 39, .int 0]), .inr (1, 5, .inr (.inl (fun _ => 0)))])) rfl ?_
  refine a_aload_n (i := 0) q64_20 rfl rfl ?_
  refine a_aload_n (i := 2) q64_21 rfl rfl ?_
  refine a_putfield q64_22 rfl rfl rfl rfl ?_
  refine AW.hp (h' := (h18_w I A L)) rfl ?_
  refine a_aload_n (i := 0) q64_25 rfl rfl ?_
  refine a_callS (as := []) q64_26 rfl rfl ⟨rfl, rfl⟩ (Or.inr ⟨rfl, rfl, rfl⟩) (c_X8_listPlacements_w (ck_r ?_))
  refine a_putfield q64_29 rfl rfl rfl rfl ?_
  refine AW.hp (h' := (hp I A L [.inl (7, [.ref 23, .ref 31, .ref 32, .ref 34, .null, .null, .int 0, .int 0]), .inl (5, [.ref 24, .ref 25, .ref 26, .ref 27, .ref 28, .ref 29, .ref 30, .int 0]), .inr (0, 240, .inl (fun _ => 0)), .inr (0, 6, .inl A3_0), .inr (0, 6, .inl A4_0), .inr (0, 6, .inl (fun _ => 0)), .inr (0, 6, .inl (fun _ => 0)), .inr (1, 6, .inr (.inl (fun _ => 0))), .inr (1, 6, .inr (.inl (fun _ => 0))), .inl (2, [.ref 23, .int 0, .int 45, .int 0]), .inl (1, [.ref 23, .ref 33]), .inr (0, 8, .inl ro_w), .inl (4, [.ref 31, .ref 32, .ref 35, .int 1]), .inl (0, [.ref 36, .int 0]), .inr (1, 5, .inr (.inl (fun _ => 0))), .inl (6, [.ref 31, .ref 32, .ref 38, .ref 40, .int 0, .int 0]), .inl (0, [.ref 39, .int 0]), .inr (1, 5, .inr (.inl (fun _ => 0))), .inr (0, 1045, .inl PLC)])) rfl ?_
  refine a_return q64_32 rfl ?_
  exact hq

theorem c_X4_init_w {X : XS} {I : Nat → Int32} {A : Nat → Nat → Int32} {L : Nat → Nat → Int64} {Q : AO → AH → Prop}  (hq : Q (.inl none) (hp I A L [.inl (7, [.ref 23, .ref 31, .ref 32, .ref 34, .ref 37, .null, .int 0, .int 0]), .inl (5, [.ref 24, .ref 25, .ref 26, .ref 27, .ref 28, .ref 29, .ref 30, .int 0]), .inr (0, 240, .inl (fun _ => 0)), .inr (0, 6, .inl A3_0), .inr (0, 6, .inl A4_0), .inr (0, 6, .inl (fun _ => 0)), .inr (0, 6, .inl (fun _ => 0)), .inr (1, 6, .inr (.inl (fun _ => 0))), .inr (1, 6, .inr (.inl (fun _ => 0))), .inl (2, [.ref 23, .int 0, .int 45, .int 0]), .inl (1, [.ref 23, .ref 33]), .inr (0, 8, .inl ro_w), .inl (4, [.ref 31, .ref 32, .ref 35, .int 1]), .inl (0, [.ref 36, .int 0]), .inr (1, 5, .inr (.inl (fun _ => 0))), .inl (6, [.ref 31, .ref 32, .ref 38, .ref 40, .int 0, .int 0]), .inl (0, [.ref 39, .int 0]), .inr (1, 5, .inr (.inl (fun _ => 0))), .inr (0, 1045, .inl PLC), .inl (3, [.ref 42, .int 0, .int (-1)]), .inr (0, 4, .inl (fun _ => 0))])) : Call X 33 [.ref 41] (hp I A L [.inl (7, [.ref 23, .ref 31, .ref 32, .ref 34, .ref 37, .null, .int 0, .int 0]), .inl (5, [.ref 24, .ref 25, .ref 26, .ref 27, .ref 28, .ref 29, .ref 30, .int 0]), .inr (0, 240, .inl (fun _ => 0)), .inr (0, 6, .inl A3_0), .inr (0, 6, .inl A4_0), .inr (0, 6, .inl (fun _ => 0)), .inr (0, 6, .inl (fun _ => 0)), .inr (1, 6, .inr (.inl (fun _ => 0))), .inr (1, 6, .inr (.inl (fun _ => 0))), .inl (2, [.ref 23, .int 0, .int 45, .int 0]), .inl (1, [.ref 23, .ref 33]), .inr (0, 8, .inl ro_w), .inl (4, [.ref 31, .ref 32, .ref 35, .int 1]), .inl (0, [.ref 36, .int 0]), .inr (1, 5, .inr (.inl (fun _ => 0))), .inl (6, [.ref 31, .ref 32, .ref 38, .ref 40, .int 0, .int 0]), .inl (0, [.ref 39, .int 0]), .inr (1, 5, .inr (.inl (fun _ => 0))), .inr (0, 1045, .inl PLC), .inl (3, dfl 3)]) Q := by
  refine call_of (by decide) rfl rfl ?_
  refine a_aload_n (i := 0) q33_0 rfl rfl ?_
  refine a_objInit q33_1 rfl ?_
  refine a_aload_n (i := 0) q33_4 rfl rfl ?_
  refine a_iconst (v := 4) q33_5 (by decide) ?_
  refine a_newarray (a := 0) (kn := 42) (N := 4) q33_6 (by decide) rfl (by decide) rfl (by decide) rfl ⟨rfl, rfl⟩ ?_
  refine a_putfield q33_8 rfl rfl rfl rfl ?_
  refine AW.hp (h' := (hp I A L [.inl (7, [.ref 23, .ref 31, .ref 32, .ref 34, .ref 37, .null, .int 0, .int 0]), .inl (5, [.ref 24, .ref 25, .ref 26, .ref 27, .ref 28, .ref 29, .ref 30, .int 0]), .inr (0, 240, .inl (fun _ => 0)), .inr (0, 6, .inl A3_0), .inr (0, 6, .inl A4_0), .inr (0, 6, .inl (fun _ => 0)), .inr (0, 6, .inl (fun _ => 0)), .inr (1, 6, .inr (.inl (fun _ => 0))), .inr (1, 6, .inr (.inl (fun _ => 0))), .inl (2, [.ref 23, .int 0, .int 45, .int 0]), .inl (1, [.ref 23, .ref 33]), .inr (0, 8, .inl ro_w), .inl (4, [.ref 31, .ref 32, .ref 35, .int 1]), .inl (0, [.ref 36, .int 0]), .inr (1, 5, .inr (.inl (fun _ => 0))), .inl (6, [.ref 31, .ref 32, .ref 38, .ref 40, .int 0, .int 0]), .inl (0, [.ref 39, .int 0]), .inr (1, 5, .inr (.inl (fun _ => 0))), .inr (0, 1045, .inl PLC), .inl (3, [.ref 42, .int 0, .int 0]), .inr (0, 4, .inl (fun _ => 0))])) rfl ?_
  refine a_aload_n (i := 0) q33_11 rfl rfl ?_
  refine a_iconst (v := (-1)) q33_12 (by decide) ?_
  refine a_putfield q33_13 rfl rfl rfl rfl ?_
  refine AW.hp (h' := (hp I A L [.inl (7, [.ref 23, .ref 31, .ref 32, .ref 34, .ref 37, .null, .int 0, .int 0]), .inl (5, [.ref 24, .ref 25, .ref 26, .ref 27, .ref 28, .ref 29, .ref 30, .int 0]), .inr (0, 240, .inl (fun _ => 0)), .inr (0, 6, .inl A3_0), .inr (0, 6, .inl A4_0), .inr (0, 6, .inl (fun _ => 0)), .inr (0, 6, .inl (fun _ => 0)), .inr (1, 6, .inr (.inl (fun _ => 0))), .inr (1, 6, .inr (.inl (fun _ => 0))), .inl (2, [.ref 23, .int 0, .int 45, .int 0]), .inl (1, [.ref 23, .ref 33]), .inr (0, 8, .inl ro_w), .inl (4, [.ref 31, .ref 32, .ref 35, .int 1]), .inl (0, [.ref 36, .int 0]), .inr (1, 5, .inr (.inl (fun _ => 0))), .inl (6, [.ref 31, .ref 32, .ref 38, .ref 40, .int 0, .int 0]), .inl (0, [.ref 39, .int 0]), .inr (1, 5, .inr (.inl (fun _ => 0))), .inr (0, 1045, .inl PLC), .inl (3, [.ref 42, .int 0, .int (-1)]), .inr (0, 4, .inl (fun _ => 0))])) rfl ?_
  refine a_return q33_16 rfl ?_
  exact hq

theorem c_X9_init_w {X : XS} {I : Nat → Int32} {A : Nat → Nat → Int32} {L : Nat → Nat → Int64} {Q : AO → AH → Prop}  (hq : Q (.inl none) (hp I A L [.inl (7, [.ref 23, .ref 31, .ref 32, .ref 34, .ref 37, .ref 41, .int 3, .int (g_bare 98 0)]), .inl (5, [.ref 24, .ref 25, .ref 26, .ref 27, .ref 28, .ref 29, .ref 30, .int 0]), .inr (0, 240, .inl (fun _ => 0)), .inr (0, 6, .inl A3_0), .inr (0, 6, .inl A4_0), .inr (0, 6, .inl (fun _ => 0)), .inr (0, 6, .inl (fun _ => 0)), .inr (1, 6, .inr (.inl (fun _ => 0))), .inr (1, 6, .inr (.inl (fun _ => 0))), .inl (2, [.ref 23, .int 0, .int 45, .int 0]), .inl (1, [.ref 23, .ref 33]), .inr (0, 8, .inl ro_w), .inl (4, [.ref 31, .ref 32, .ref 35, .int 1]), .inl (0, [.ref 36, .int 0]), .inr (1, 5, .inr (.inl (fun _ => 0))), .inl (6, [.ref 31, .ref 32, .ref 38, .ref 40, .int 0, .int 0]), .inl (0, [.ref 39, .int 0]), .inr (1, 5, .inr (.inl (fun _ => 0))), .inr (0, 1045, .inl PLC), .inl (3, [.ref 42, .int 0, .int (-1)]), .inr (0, 4, .inl (fun _ => 0))])) : Call X 71 [.ref 22] (hp I A L [.inl (7, dfl 7)]) Q := by
  refine call_of (by decide) rfl rfl ?_
  refine a_aload_n (i := 0) q71_0 rfl rfl ?_
  refine a_objInit q71_1 rfl ?_
  refine a_aload_n (i := 0) q71_4 rfl rfl ?_
  refine a_new (a := 5) (kn := 23) q71_5 rfl (by decide) rfl ⟨rfl, rfl⟩ ?_
  refine a_dup q71_8 rfl ?_
  refine a_callI (as := []) q71_9 rfl rfl ⟨rfl, rfl⟩ (Or.inr ⟨rfl, rfl, rfl⟩) (c_X7_init_w (ck_v ?_))
  refine a_putfield q71_12 rfl rfl rfl rfl ?_
  refine AW.hp (h' := (hp I A L [.inl (7, [.ref 23, .null, .null, .null, .null, .null, .int 0, .int 0]), .inl (5, [.ref 24, .ref 25, .ref 26, .ref 27, .ref 28, .ref 29, .ref 30, .int 0]), .inr (0, 240, .inl (fun _ => 0)), .inr (0, 6, .inl A3_0), .inr (0, 6, .inl A4_0), .inr (0, 6, .inl (fun _ => 0)), .inr (0, 6, .inl (fun _ => 0)), .inr (1, 6, .inr (.inl (fun _ => 0))), .inr (1, 6, .inr (.inl (fun _ => 0)))])) rfl ?_
  refine a_aload_n (i := 0) q71_15 rfl rfl ?_
  refine a_new (a := 2) (kn := 31) q71_16 rfl (by decide) rfl ⟨rfl, rfl⟩ ?_
  refine a_dup q71_19 rfl ?_
  refine a_aload_n (i := 0) q71_20 rfl rfl ?_
  refine a_getfield q71_21 rfl rfl ?_
  refine a_callI (as := [_]) q71_24 rfl rfl ⟨rfl, rfl⟩ (Or.inr ⟨rfl, rfl, rfl⟩) (c_X3_init_w (ck_v ?_))
  refine a_putfield q71_27 rfl rfl rfl rfl ?_
  refine AW.hp (h' := (hp I A L [.inl (7, [.ref 23, .ref 31, .null, .null, .null, .null, .int 0, .int 0]), .inl (5, [.ref 24, .ref 25, .ref 26, .ref 27, .ref 28, .ref 29, .ref 30, .int 0]), .inr (0, 240, .inl (fun _ => 0)), .inr (0, 6, .inl A3_0), .inr (0, 6, .inl A4_0), .inr (0, 6, .inl (fun _ => 0)), .inr (0, 6, .inl (fun _ => 0)), .inr (1, 6, .inr (.inl (fun _ => 0))), .inr (1, 6, .inr (.inl (fun _ => 0))), .inl (2, [.ref 23, .int 0, .int 45, .int 0])])) rfl ?_
  refine a_aload_n (i := 0) q71_30 rfl rfl ?_
  refine a_new (a := 1) (kn := 32) q71_31 rfl (by decide) rfl ⟨rfl, rfl⟩ ?_
  refine a_dup q71_34 rfl ?_
  refine a_aload_n (i := 0) q71_35 rfl rfl ?_
  refine a_getfield q71_36 rfl rfl ?_
  refine a_callI (as := [_]) q71_39 rfl rfl ⟨rfl, rfl⟩ (Or.inr ⟨rfl, rfl, rfl⟩) (c_X2_init_w (ck_v ?_))
  refine a_putfield q71_42 rfl rfl rfl rfl ?_
  refine AW.hp (h' := (hp I A L [.inl (7, [.ref 23, .ref 31, .ref 32, .null, .null, .null, .int 0, .int 0]), .inl (5, [.ref 24, .ref 25, .ref 26, .ref 27, .ref 28, .ref 29, .ref 30, .int 0]), .inr (0, 240, .inl (fun _ => 0)), .inr (0, 6, .inl A3_0), .inr (0, 6, .inl A4_0), .inr (0, 6, .inl (fun _ => 0)), .inr (0, 6, .inl (fun _ => 0)), .inr (1, 6, .inr (.inl (fun _ => 0))), .inr (1, 6, .inr (.inl (fun _ => 0))), .inl (2, [.ref 23, .int 0, .int 45, .int 0]), .inl (1, [.ref 23, .ref 33]), .inr (0, 8, .inl ro_w)])) rfl ?_
  refine a_aload_n (i := 0) q71_45 rfl rfl ?_
  refine a_new (a := 4) (kn := 34) q71_46 rfl (by decide) rfl ⟨rfl, rfl⟩ ?_
  refine a_dup q71_49 rfl ?_
  refine a_aload_n (i := 0) q71_50 rfl rfl ?_
  refine a_getfield q71_51 rfl rfl ?_
  refine a_aload_n (i := 0) q71_54 rfl rfl ?_
  refine a_getfield q71_55 rfl rfl ?_
  refine a_callI (as := [_, _]) q71_58 rfl rfl ⟨rfl, rfl⟩ (Or.inr ⟨rfl, rfl, rfl⟩) (c_X6_init_w (ck_v ?_))
  refine a_putfield q71_61 rfl rfl rfl rfl ?_
  refine AW.hp (h' := (hp I A L [.inl (7, [.ref 23, .ref 31, .ref 32, .ref 34, .null, .null, .int 0, .int 0]), .inl (5, [.ref 24, .ref 25, .ref 26, .ref 27, .ref 28, .ref 29, .ref 30, .int 0]), .inr (0, 240, .inl (fun _ => 0)), .inr (0, 6, .inl A3_0), .inr (0, 6, .inl A4_0), .inr (0, 6, .inl (fun _ => 0)), .inr (0, 6, .inl (fun _ => 0)), .inr (1, 6, .inr (.inl (fun _ => 0))), .inr (1, 6, .inr (.inl (fun _ => 0))), .inl (2, [.ref 23, .int 0, .int 45, .int 0]), .inl (1, [.ref 23, .ref 33]), .inr (0, 8, .inl ro_w), .inl (4, [.ref 31, .ref 32, .ref 35, .int 1]), .inl (0, [.ref 36, .int 0]), .inr (1, 5, .inr (.inl (fun _ => 0)))])) rfl ?_
  refine a_aload_n (i := 0) q71_64 rfl rfl ?_
  refine a_new (a := 6) (kn := 37) q71_65 rfl (by decide) rfl ⟨rfl, rfl⟩ ?_
  refine a_dup q71_68 rfl ?_
  refine a_aload_n (i := 0) q71_69 rfl rfl ?_
  refine a_getfield q71_70 rfl rfl ?_
  refine a_aload_n (i := 0) q71_73 rfl rfl ?_
  refine a_getfield q71_74 rfl rfl ?_
  refine a_callI (as := [_, _]) q71_77 rfl rfl ⟨rfl, rfl⟩ (Or.inr ⟨rfl, rfl, rfl⟩) (c_X8_init_w (ck_v ?_))
  refine a_putfield q71_80 rfl rfl rfl rfl ?_
  refine AW.hp (h' := (hp I A L [.inl (7, [.ref 23, .ref 31, .ref 32, .ref 34, .ref 37, .null, .int 0, .int 0]), .inl (5, [.ref 24, .ref 25, .ref 26, .ref 27, .ref 28, .ref 29, .ref 30, .int 0]), .inr (0, 240, .inl (fun _ => 0)), .inr (0, 6, .inl A3_0), .inr (0, 6, .inl A4_0), .inr (0, 6, .inl (fun _ => 0)), .inr (0, 6, .inl (fun _ => 0)), .inr (1, 6, .inr (.inl (fun _ => 0))), .inr (1, 6, .inr (.inl (fun _ => 0))), .inl (2, [.ref 23, .int 0, .int 45, .int 0]), .inl (1, [.ref 23, .ref 33]), .inr (0, 8, .inl ro_w), .inl (4, [.ref 31, .ref 32, .ref 35, .int 1]), .inl (0, [.ref 36, .int 0]), .inr (1, 5, .inr (.inl (fun _ => 0))), .inl (6, [.ref 31, .ref 32, .ref 38, .ref 40, .int 0, .int 0]), .inl (0, [.ref 39, .int 0]), .inr (1, 5, .inr (.inl (fun _ => 0))), .inr (0, 1045, .inl PLC)])) rfl ?_
  refine a_aload_n (i := 0) q71_83 rfl rfl ?_
  refine a_new (a := 3) (kn := 41) q71_84 rfl (by decide) rfl ⟨rfl, rfl⟩ ?_
  refine a_dup q71_87 rfl ?_
  refine a_callI (as := []) q71_88 rfl rfl ⟨rfl, rfl⟩ (Or.inr ⟨rfl, rfl, rfl⟩) (c_X4_init_w (ck_v ?_))
  refine a_putfield q71_91 rfl rfl rfl rfl ?_
  refine AW.hp (h' := (hp I A L [.inl (7, [.ref 23, .ref 31, .ref 32, .ref 34, .ref 37, .ref 41, .int 0, .int 0]), .inl (5, [.ref 24, .ref 25, .ref 26, .ref 27, .ref 28, .ref 29, .ref 30, .int 0]), .inr (0, 240, .inl (fun _ => 0)), .inr (0, 6, .inl A3_0), .inr (0, 6, .inl A4_0), .inr (0, 6, .inl (fun _ => 0)), .inr (0, 6, .inl (fun _ => 0)), .inr (1, 6, .inr (.inl (fun _ => 0))), .inr (1, 6, .inr (.inl (fun _ => 0))), .inl (2, [.ref 23, .int 0, .int 45, .int 0]), .inl (1, [.ref 23, .ref 33]), .inr (0, 8, .inl ro_w), .inl (4, [.ref 31, .ref 32, .ref 35, .int 1]), .inl (0, [.ref 36, .int 0]), .inr (1, 5, .inr (.inl (fun _ => 0))), .inl (6, [.ref 31, .ref 32, .ref 38, .ref 40, .int 0, .int 0]), .inl (0, [.ref 39, .int 0]), .inr (1, 5, .inr (.inl (fun _ => 0))), .inr (0, 1045, .inl PLC), .inl (3, [.ref 42, .int 0, .int (-1)]), .inr (0, 4, .inl (fun _ => 0))])) rfl ?_
  refine a_aload_n (i := 0) q71_94 rfl rfl ?_
  refine a_iconst (v := 3) q71_95 (by decide) ?_
  refine a_putfield q71_96 rfl rfl rfl rfl ?_
  refine AW.hp (h' := (hp I A L [.inl (7, [.ref 23, .ref 31, .ref 32, .ref 34, .ref 37, .ref 41, .int 3, .int 0]), .inl (5, [.ref 24, .ref 25, .ref 26, .ref 27, .ref 28, .ref 29, .ref 30, .int 0]), .inr (0, 240, .inl (fun _ => 0)), .inr (0, 6, .inl A3_0), .inr (0, 6, .inl A4_0), .inr (0, 6, .inl (fun _ => 0)), .inr (0, 6, .inl (fun _ => 0)), .inr (1, 6, .inr (.inl (fun _ => 0))), .inr (1, 6, .inr (.inl (fun _ => 0))), .inl (2, [.ref 23, .int 0, .int 45, .int 0]), .inl (1, [.ref 23, .ref 33]), .inr (0, 8, .inl ro_w), .inl (4, [.ref 31, .ref 32, .ref 35, .int 1]), .inl (0, [.ref 36, .int 0]), .inr (1, 5, .inr (.inl (fun _ => 0))), .inl (6, [.ref 31, .ref 32, .ref 38, .ref 40, .int 0, .int 0]), .inl (0, [.ref 39, .int 0]), .inr (1, 5, .inr (.inl (fun _ => 0))), .inr (0, 1045, .inl PLC), .inl (3, [.ref 42, .int 0, .int (-1)]), .inr (0, 4, .inl (fun _ => 0))])) rfl ?_
  refine a_aload_n (i := 0) q71_99 rfl rfl ?_
  refine a_bipush (v := 98) q71_100 (by decide) ?_
  refine a_iconst (v := 0) q71_102 (by decide) ?_
  refine a_cs2 q71_103 rfl ⟨rfl, rfl⟩ rfl ?_
  refine c_X1_bare ?_
  refine ck_r ?_
  refine a_putfield q71_106 rfl rfl rfl rfl ?_
  refine AW.hp (h' := (hp I A L [.inl (7, [.ref 23, .ref 31, .ref 32, .ref 34, .ref 37, .ref 41, .int 3, .int (g_bare 98 0)]), .inl (5, [.ref 24, .ref 25, .ref 26, .ref 27, .ref 28, .ref 29, .ref 30, .int 0]), .inr (0, 240, .inl (fun _ => 0)), .inr (0, 6, .inl A3_0), .inr (0, 6, .inl A4_0), .inr (0, 6, .inl (fun _ => 0)), .inr (0, 6, .inl (fun _ => 0)), .inr (1, 6, .inr (.inl (fun _ => 0))), .inr (1, 6, .inr (.inl (fun _ => 0))), .inl (2, [.ref 23, .int 0, .int 45, .int 0]), .inl (1, [.ref 23, .ref 33]), .inr (0, 8, .inl ro_w), .inl (4, [.ref 31, .ref 32, .ref 35, .int 1]), .inl (0, [.ref 36, .int 0]), .inr (1, 5, .inr (.inl (fun _ => 0))), .inl (6, [.ref 31, .ref 32, .ref 38, .ref 40, .int 0, .int 0]), .inl (0, [.ref 39, .int 0]), .inr (1, 5, .inr (.inl (fun _ => 0))), .inr (0, 1045, .inl PLC), .inl (3, [.ref 42, .int 0, .int (-1)]), .inr (0, 4, .inl (fun _ => 0))])) rfl ?_
  refine a_return q71_109 rfl ?_
  exact hq
