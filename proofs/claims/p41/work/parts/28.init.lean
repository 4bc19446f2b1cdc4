/-! constructors, behind the law's row -/
def nt (pn : Nat → Int32) (O : AH) : AH := .inr (0, 400, .inl pn) :: O
/-! constructors of the class -/
def A3_0 : Nat → Int32 := (upd (upd (upd (upd (upd (upd (fun _ => 0) 0 (-1)) 1 (-1)) 2 (-1)) 3 (-1)) 4 (-1)) 5 (-1))
def A4_0 : Nat → Int32 := (upd (upd (upd (upd (upd (upd (fun _ => 0) 0 0) 1 0) 2 0) 3 0) 4 0) 5 0)
theorem c_X7_init {X : XS} {pn : Nat → Int32} {Q : AO → AH → Prop}  (hq : Q (.inl none) (nt pn [.inl (7, dfl 7), .inl (5, [.ref 3, .ref 4, .ref 5, .ref 6, .ref 7, .ref 8, .ref 9, .int 0]), .inr (0, 240, .inl (fun _ => 0)), .inr (0, 6, .inl A3_0), .inr (0, 6, .inl A4_0), .inr (0, 6, .inl (fun _ => 0)), .inr (0, 6, .inl (fun _ => 0)), .inr (1, 6, .inr (.inl (fun _ => 0))), .inr (1, 6, .inr (.inl (fun _ => 0)))])) : Call X 43 [.ref 2] (nt pn [.inl (7, dfl 7), .inl (5, dfl 5)]) Q := by
  refine call_of (by decide) rfl rfl ?_
  refine a_aload_n (i := 0) q43_0 rfl rfl ?_
  refine a_objInit q43_1 rfl ?_
  refine a_aload_n (i := 0) q43_4 rfl rfl ?_
  refine a_sipush (v := 240) q43_5 (by decide) ?_
  refine a_newarray (a := 0) (kn := 3) (N := 240) q43_8 (by decide) rfl (by decide) rfl (by decide) rfl ⟨rfl, rfl⟩ ?_
  refine a_putfield q43_10 rfl rfl rfl rfl ?_
  refine AW.hp (h' := (nt pn [.inl (7, dfl 7), .inl (5, [.ref 3, .null, .null, .null, .null, .null, .null, .int 0]), .inr (0, 240, .inl (fun _ => 0))])) rfl ?_
  refine a_aload_n (i := 0) q43_13 rfl rfl ?_
  refine a_bipush (v := 6) q43_14 (by decide) ?_
  refine a_newarray (a := 0) (kn := 4) (N := 6) q43_16 (by decide) rfl (by decide) rfl (by decide) rfl ⟨rfl, rfl⟩ ?_
  refine a_putfield q43_18 rfl rfl rfl rfl ?_
  refine AW.hp (h' := (nt pn [.inl (7, dfl 7), .inl (5, [.ref 3, .ref 4, .null, .null, .null, .null, .null, .int 0]), .inr (0, 240, .inl (fun _ => 0)), .inr (0, 6, .inl (fun _ => 0))])) rfl ?_
  refine a_aload_n (i := 0) q43_21 rfl rfl ?_
  refine a_bipush (v := 6) q43_22 (by decide) ?_
  refine a_newarray (a := 0) (kn := 5) (N := 6) q43_24 (by decide) rfl (by decide) rfl (by decide) rfl ⟨rfl, rfl⟩ ?_
  refine a_putfield q43_26 rfl rfl rfl rfl ?_
  refine AW.hp (h' := (nt pn [.inl (7, dfl 7), .inl (5, [.ref 3, .ref 4, .ref 5, .null, .null, .null, .null, .int 0]), .inr (0, 240, .inl (fun _ => 0)), .inr (0, 6, .inl (fun _ => 0)), .inr (0, 6, .inl (fun _ => 0))])) rfl ?_
  refine a_aload_n (i := 0) q43_29 rfl rfl ?_
  refine a_bipush (v := 6) q43_30 (by decide) ?_
  refine a_newarray (a := 0) (kn := 6) (N := 6) q43_32 (by decide) rfl (by decide) rfl (by decide) rfl ⟨rfl, rfl⟩ ?_
  refine a_putfield q43_34 rfl rfl rfl rfl ?_
  refine AW.hp (h' := (nt pn [.inl (7, dfl 7), .inl (5, [.ref 3, .ref 4, .ref 5, .ref 6, .null, .null, .null, .int 0]), .inr (0, 240, .inl (fun _ => 0)), .inr (0, 6, .inl (fun _ => 0)), .inr (0, 6, .inl (fun _ => 0)), .inr (0, 6, .inl (fun _ => 0))])) rfl ?_
  refine a_aload_n (i := 0) q43_37 rfl rfl ?_
  refine a_bipush (v := 6) q43_38 (by decide) ?_
  refine a_newarray (a := 0) (kn := 7) (N := 6) q43_40 (by decide) rfl (by decide) rfl (by decide) rfl ⟨rfl, rfl⟩ ?_
  refine a_putfield q43_42 rfl rfl rfl rfl ?_
  refine AW.hp (h' := (nt pn [.inl (7, dfl 7), .inl (5, [.ref 3, .ref 4, .ref 5, .ref 6, .ref 7, .null, .null, .int 0]), .inr (0, 240, .inl (fun _ => 0)), .inr (0, 6, .inl (fun _ => 0)), .inr (0, 6, .inl (fun _ => 0)), .inr (0, 6, .inl (fun _ => 0)), .inr (0, 6, .inl (fun _ => 0))])) rfl ?_
  refine a_aload_n (i := 0) q43_45 rfl rfl ?_
  refine a_bipush (v := 6) q43_46 (by decide) ?_
  refine a_newarray (a := 1) (kn := 8) (N := 6) q43_48 (by decide) rfl (by decide) rfl (by decide) rfl ⟨rfl, rfl⟩ ?_
  refine a_putfield q43_50 rfl rfl rfl rfl ?_
  refine AW.hp (h' := (nt pn [.inl (7, dfl 7), .inl (5, [.ref 3, .ref 4, .ref 5, .ref 6, .ref 7, .ref 8, .null, .int 0]), .inr (0, 240, .inl (fun _ => 0)), .inr (0, 6, .inl (fun _ => 0)), .inr (0, 6, .inl (fun _ => 0)), .inr (0, 6, .inl (fun _ => 0)), .inr (0, 6, .inl (fun _ => 0)), .inr (1, 6, .inr (.inl (fun _ => 0)))])) rfl ?_
  refine a_aload_n (i := 0) q43_53 rfl rfl ?_
  refine a_bipush (v := 6) q43_54 (by decide) ?_
  refine a_newarray (a := 1) (kn := 9) (N := 6) q43_56 (by decide) rfl (by decide) rfl (by decide) rfl ⟨rfl, rfl⟩ ?_
  refine a_putfield q43_58 rfl rfl rfl rfl ?_
  refine AW.hp (h' := (nt pn [.inl (7, dfl 7), .inl (5, [.ref 3, .ref 4, .ref 5, .ref 6, .ref 7, .ref 8, .ref 9, .int 0]), .inr (0, 240, .inl (fun _ => 0)), .inr (0, 6, .inl (fun _ => 0)), .inr (0, 6, .inl (fun _ => 0)), .inr (0, 6, .inl (fun _ => 0)), .inr (0, 6, .inl (fun _ => 0)), .inr (1, 6, .inr (.inl (fun _ => 0))), .inr (1, 6, .inr (.inl (fun _ => 0)))])) rfl ?_
  refine a_iconst (v := 0) q43_61 (by decide) ?_
  refine a_istore_n (i := 1) (lv' := [(0, _), (1, _)]) q43_62 rfl rfl rfl ?_
  refine a_iload_n (i := 1) q43_63 rfl rfl ?_
  refine a_bipush (v := 6) q43_64 (by decide) ?_
  refine a_icmp_ge (tgt := 89) q43_66 (by decide) (fun zc66 => absurd zc66 (by decide)) (fun zc66 => ?_)
  refine a_aload_n (i := 0) q43_69 rfl rfl ?_
  refine a_getfield q43_70 rfl rfl ?_
  refine a_iload_n (i := 1) q43_73 rfl rfl ?_
  refine a_iconst (v := (-1)) q43_74 (by decide) ?_
  refine a_iast' q43_75 rfl (j := 0) rfl (by decide) (by decide) (h' := (nt pn [.inl (7, dfl 7), .inl (5, [.ref 3, .ref 4, .ref 5, .ref 6, .ref 7, .ref 8, .ref 9, .int 0]), .inr (0, 240, .inl (fun _ => 0)), .inr (0, 6, .inl (upd (fun _ => 0) 0 (-1))), .inr (0, 6, .inl (fun _ => 0)), .inr (0, 6, .inl (fun _ => 0)), .inr (0, 6, .inl (fun _ => 0)), .inr (1, 6, .inr (.inl (fun _ => 0))), .inr (1, 6, .inr (.inl (fun _ => 0)))])) rfl ?_
  refine a_aload_n (i := 0) q43_76 rfl rfl ?_
  refine a_getfield q43_77 rfl rfl ?_
  refine a_iload_n (i := 1) q43_80 rfl rfl ?_
  refine a_iconst (v := 0) q43_81 (by decide) ?_
  refine a_iast' q43_82 rfl (j := 0) rfl (by decide) (by decide) (h' := (nt pn [.inl (7, dfl 7), .inl (5, [.ref 3, .ref 4, .ref 5, .ref 6, .ref 7, .ref 8, .ref 9, .int 0]), .inr (0, 240, .inl (fun _ => 0)), .inr (0, 6, .inl (upd (fun _ => 0) 0 (-1))), .inr (0, 6, .inl (upd (fun _ => 0) 0 0)), .inr (0, 6, .inl (fun _ => 0)), .inr (0, 6, .inl (fun _ => 0)), .inr (1, 6, .inr (.inl (fun _ => 0))), .inr (1, 6, .inr (.inl (fun _ => 0)))])) rfl ?_
  refine a_iinc (lv' := [(0, _), (1, _)]) q43_83 rfl rfl rfl rfl ?_
  refine a_goto (tgt := 63) q43_86 (by decide) ?_
  refine a_iload_n (i := 1) q43_63 rfl rfl ?_
  refine a_bipush (v := 6) q43_64 (by decide) ?_
  refine a_icmp_ge (tgt := 89) q43_66 (by decide) (fun zc66_1 => absurd zc66_1 (by decide)) (fun zc66_1 => ?_)
  refine a_aload_n (i := 0) q43_69 rfl rfl ?_
  refine a_getfield q43_70 rfl rfl ?_
  refine a_iload_n (i := 1) q43_73 rfl rfl ?_
  refine a_iconst (v := (-1)) q43_74 (by decide) ?_
  refine a_iast' q43_75 rfl (j := 1) rfl (by decide) (by decide) (h' := (nt pn [.inl (7, dfl 7), .inl (5, [.ref 3, .ref 4, .ref 5, .ref 6, .ref 7, .ref 8, .ref 9, .int 0]), .inr (0, 240, .inl (fun _ => 0)), .inr (0, 6, .inl (upd (upd (fun _ => 0) 0 (-1)) 1 (-1))), .inr (0, 6, .inl (upd (fun _ => 0) 0 0)), .inr (0, 6, .inl (fun _ => 0)), .inr (0, 6, .inl (fun _ => 0)), .inr (1, 6, .inr (.inl (fun _ => 0))), .inr (1, 6, .inr (.inl (fun _ => 0)))])) rfl ?_
  refine a_aload_n (i := 0) q43_76 rfl rfl ?_
  refine a_getfield q43_77 rfl rfl ?_
  refine a_iload_n (i := 1) q43_80 rfl rfl ?_
  refine a_iconst (v := 0) q43_81 (by decide) ?_
  refine a_iast' q43_82 rfl (j := 1) rfl (by decide) (by decide) (h' := (nt pn [.inl (7, dfl 7), .inl (5, [.ref 3, .ref 4, .ref 5, .ref 6, .ref 7, .ref 8, .ref 9, .int 0]), .inr (0, 240, .inl (fun _ => 0)), .inr (0, 6, .inl (upd (upd (fun _ => 0) 0 (-1)) 1 (-1))), .inr (0, 6, .inl (upd (upd (fun _ => 0) 0 0) 1 0)), .inr (0, 6, .inl (fun _ => 0)), .inr (0, 6, .inl (fun _ => 0)), .inr (1, 6, .inr (.inl (fun _ => 0))), .inr (1, 6, .inr (.inl (fun _ => 0)))])) rfl ?_
  refine a_iinc (lv' := [(0, _), (1, _)]) q43_83 rfl rfl rfl rfl ?_
  refine a_goto (tgt := 63) q43_86 (by decide) ?_
  refine a_iload_n (i := 1) q43_63 rfl rfl ?_
  refine a_bipush (v := 6) q43_64 (by decide) ?_
  refine a_icmp_ge (tgt := 89) q43_66 (by decide) (fun zc66_2 => absurd zc66_2 (by decide)) (fun zc66_2 => ?_)
  refine a_aload_n (i := 0) q43_69 rfl rfl ?_
  refine a_getfield q43_70 rfl rfl ?_
  refine a_iload_n (i := 1) q43_73 rfl rfl ?_
  refine a_iconst (v := (-1)) q43_74 (by decide) ?_
  refine a_iast' q43_75 rfl (j := 2) rfl (by decide) (by decide) (h' := (nt pn [.inl (7, dfl 7), .inl (5, [.ref 3, .ref 4, .ref 5, .ref 6, .ref 7, .ref 8, .ref 9, .int 0]), .inr (0, 240, .inl (fun _ => 0)), .inr (0, 6, .inl (upd (upd (upd (fun _ => 0) 0 (-1)) 1 (-1)) 2 (-1))), .inr (0, 6, .inl (upd (upd (fun _ => 0) 0 0) 1 0)), .inr (0, 6, .inl (fun _ => 0)), .inr (0, 6, .inl (fun _ => 0)), .inr (1, 6, .inr (.inl (fun _ => 0))), .inr (1, 6, .inr (.inl (fun _ => 0)))])) rfl ?_
  refine a_aload_n (i := 0) q43_76 rfl rfl ?_
  refine a_getfield q43_77 rfl rfl ?_
  refine a_iload_n (i := 1) q43_80 rfl rfl ?_
  refine a_iconst (v := 0) q43_81 (by decide) ?_
  refine a_iast' q43_82 rfl (j := 2) rfl (by decide) (by decide) (h' := (nt pn [.inl (7, dfl 7), .inl (5, [.ref 3, .ref 4, .ref 5, .ref 6, .ref 7, .ref 8, .ref 9, .int 0]), .inr (0, 240, .inl (fun _ => 0)), .inr (0, 6, .inl (upd (upd (upd (fun _ => 0) 0 (-1)) 1 (-1)) 2 (-1))), .inr (0, 6, .inl (upd (upd (upd (fun _ => 0) 0 0) 1 0) 2 0)), .inr (0, 6, .inl (fun _ => 0)), .inr (0, 6, .inl (fun _ => 0)), .inr (1, 6, .inr (.inl (fun _ => 0))), .inr (1, 6, .inr (.inl (fun _ => 0)))])) rfl ?_
  refine a_iinc (lv' := [(0, _), (1, _)]) q43_83 rfl rfl rfl rfl ?_
  refine a_goto (tgt := 63) q43_86 (by decide) ?_
  refine a_iload_n (i := 1) q43_63 rfl rfl ?_
  refine a_bipush (v := 6) q43_64 (by decide) ?_
  refine a_icmp_ge (tgt := 89) q43_66 (by decide) (fun zc66_3 => absurd zc66_3 (by decide)) (fun zc66_3 => ?_)
  refine a_aload_n (i := 0) q43_69 rfl rfl ?_
  refine a_getfield q43_70 rfl rfl ?_
  refine a_iload_n (i := 1) q43_73 rfl rfl ?_
  refine a_iconst (v := (-1)) q43_74 (by decide) ?_
  refine a_iast' q43_75 rfl (j := 3) rfl (by decide) (by decide) (h' := (nt pn [.inl (7, dfl 7), .inl (5, [.ref 3, .ref 4, .ref 5, .ref 6, .ref 7, .ref 8, .ref 9, .int 0]), .inr (0, 240, .inl (fun _ => 0)), .inr (0, 6, .inl (upd (upd (upd (upd (fun _ => 0) 0 (-1)) 1 (-1)) 2 (-1)) 3 (-1))), .inr (0, 6, .inl (upd (upd (upd (fun _ => 0) 0 0) 1 0) 2 0)), .inr (0, 6, .inl (fun _ => 0)), .inr (0, 6, .inl (fun _ => 0)), .inr (1, 6, .inr (.inl (fun _ => 0))), .inr (1, 6, .inr (.inl (fun _ => 0)))])) rfl ?_
  refine a_aload_n (i := 0) q43_76 rfl rfl ?_
  refine a_getfield q43_77 rfl rfl ?_
  refine a_iload_n (i := 1) q43_80 rfl rfl ?_
  refine a_iconst (v := 0) q43_81 (by decide) ?_
  refine a_iast' q43_82 rfl (j := 3) rfl (by decide) (by decide) (h' := (nt pn [.inl (7, dfl 7), .inl (5, [.ref 3, .ref 4, .ref 5, .ref 6, .ref 7, .ref 8, .ref 9, .int 0]), .inr (0, 240, .inl (fun _ => 0)), .inr (0, 6, .inl (upd (upd (upd (upd (fun _ => 0) 0 (-1)) 1 (-1)) 2 (-1)) 3 (-1))), .inr (0, 6, .inl (upd (upd (upd (upd (fun _ => 0) 0 0) 1 0) 2 0) 3 0)), .inr (0, 6, .inl (fun _ => 0)), .inr (0, 6, .inl (fun _ => 0)), .inr (1, 6, .inr (.inl (fun _ => 0))), .inr (1, 6, .inr (.inl (fun _ => 0)))])) rfl ?_
  refine a_iinc (lv' := [(0, _), (1, _)]) q43_83 rfl rfl rfl rfl ?_
  refine a_goto (tgt := 63) q43_86 (by decide) ?_
  refine a_iload_n (i := 1) q43_63 rfl rfl ?_
  refine a_bipush (v := 6) q43_64 (by decide) ?_
  refine a_icmp_ge (tgt := 89) q43_66 (by decide) (fun zc66_4 => absurd zc66_4 (by decide)) (fun zc66_4 => ?_)
  refine a_aload_n (i := 0) q43_69 rfl rfl ?_
  refine a_getfield q43_70 rfl rfl ?_
  refine a_iload_n (i := 1) q43_73 rfl rfl ?_
  refine a_iconst (v := (-1)) q43_74 (by decide) ?_
  refine a_iast' q43_75 rfl (j := 4) rfl (by decide) (by decide) (h' := (nt pn [.inl (7, dfl 7), .inl (5, [.ref 3, .ref 4, .ref 5, .ref 6, .ref 7, .ref 8, .ref 9, .int 0]), .inr (0, 240, .inl (fun _ => 0)), .inr (0, 6, .inl (upd (upd (upd (upd (upd (fun _ => 0) 0 (-1)) 1 (-1)) 2 (-1)) 3 (-1)) 4 (-1))), .inr (0, 6, .inl (upd (upd (upd (upd (fun _ => 0) 0 0) 1 0) 2 0) 3 0)), .inr (0, 6, .inl (fun _ => 0)), .inr (0, 6, .inl (fun _ => 0)), .inr (1, 6, .inr (.inl (fun _ => 0))), .inr (1, 6, .inr (.inl (fun _ => 0)))])) rfl ?_
  refine a_aload_n (i := 0) q43_76 rfl rfl ?_
  refine a_getfield q43_77 rfl rfl ?_
  refine a_iload_n (i := 1) q43_80 rfl rfl ?_
  refine a_iconst (v := 0) q43_81 (by decide) ?_
  refine a_iast' q43_82 rfl (j := 4) rfl (by decide) (by decide) (h' := (nt pn [.inl (7, dfl 7), .inl (5, [.ref 3, .ref 4, .ref 5, .ref 6, .ref 7, .ref 8, .ref 9, .int 0]), .inr (0, 240, .inl (fun _ => 0)), .inr (0, 6, .inl (upd (upd (upd (upd (upd (fun _ => 0) 0 (-1)) 1 (-1)) 2 (-1)) 3 (-1)) 4 (-1))), .inr (0, 6, .inl (upd (upd (upd (upd (upd (fun _ => 0) 0 0) 1 0) 2 0) 3 0) 4 0)), .inr (0, 6, .inl (fun _ => 0)), .inr (0, 6, .inl (fun _ => 0)), .inr (1, 6, .inr (.inl (fun _ => 0))), .inr (1, 6, .inr (.inl (fun _ => 0)))])) rfl ?_
  refine a_iinc (lv' := [(0, _), (1, _)]) q43_83 rfl rfl rfl rfl ?_
  refine a_goto (tgt := 63) q43_86 (by decide) ?_
  refine a_iload_n (i := 1) q43_63 rfl rfl ?_
  refine a_bipush (v := 6) q43_64 (by decide) ?_
  refine a_icmp_ge (tgt := 89) q43_66 (by decide) (fun zc66_5 => absurd zc66_5 (by decide)) (fun zc66_5 => ?_)
  refine a_aload_n (i := 0) q43_69 rfl rfl ?_
  refine a_getfield q43_70 rfl rfl ?_
  refine a_iload_n (i := 1) q43_73 rfl rfl ?_
  refine a_iconst (v := (-1)) q43_74 (by decide) ?_
  refine a_iast' q43_75 rfl (j := 5) rfl (by decide) (by decide) (h' := (nt pn [.inl (7, dfl 7), .inl (5, [.ref 3, .ref 4, .ref 5, .ref 6, .ref 7, .ref 8, .ref 9, .int 0]), .inr (0, 240, .inl (fun _ => 0)), .inr (0, 6, .inl (upd (upd (upd (upd (upd (upd (fun _ => 0) 0 (-1)) 1 (-1)) 2 (-1)) 3 (-1)) 4 (-1)) 5 (-1))), .inr (0, 6, .inl (upd (upd (upd (upd (upd (fun _ => 0) 0 0) 1 0) 2 0) 3 0) 4 0)), .inr (0, 6, .inl (fun _ => 0)), .inr (0, 6, .inl (fun _ => 0)), .inr (1, 6, .inr (.inl (fun _ => 0))), .inr (1, 6, .inr (.inl (fun _ => 0)))])) rfl ?_
  refine a_aload_n (i := 0) q43_76 rfl rfl ?_
  refine a_getfield q43_77 rfl rfl ?_
  refine a_iload_n (i := 1) q43_80 rfl rfl ?_
  refine a_iconst (v := 0) q43_81 (by decide) ?_
  refine a_iast' q43_82 rfl (j := 5) rfl (by decide) (by decide) (h' := (nt pn [.inl (7, dfl 7), .inl (5, [.ref 3, .ref 4, .ref 5, .ref 6, .ref 7, .ref 8, .ref 9, .int 0]), .inr (0, 240, .inl (fun _ => 0)), .inr (0, 6, .inl (upd (upd (upd (upd (upd (upd (fun _ => 0) 0 (-1)) 1 (-1)) 2 (-1)) 3 (-1)) 4 (-1)) 5 (-1))), .inr (0, 6, .inl (upd (upd (upd (upd (upd (upd (fun _ => 0) 0 0) 1 0) 2 0) 3 0) 4 0) 5 0)), .inr (0, 6, .inl (fun _ => 0)), .inr (0, 6, .inl (fun _ => 0)), .inr (1, 6, .inr (.inl (fun _ => 0))), .inr (1, 6, .inr (.inl (fun _ => 0)))])) rfl ?_
  refine a_iinc (lv' := [(0, _), (1, _)]) q43_83 rfl rfl rfl rfl ?_
  refine a_goto (tgt := 63) q43_86 (by decide) ?_
  refine a_iload_n (i := 1) q43_63 rfl rfl ?_
  refine a_bipush (v := 6) q43_64 (by decide) ?_
  refine a_icmp_ge (tgt := 89) q43_66 (by decide) (fun zc66_6 => ?_) (fun zc66_6 => absurd (by decide) zc66_6)
  refine a_return q43_89 rfl ?_
  exact hq

theorem c_X3_init {X : XS} {pn : Nat → Int32} {Q : AO → AH → Prop}  (hq : Q (.inl none) (nt pn [.inl (7, [.ref 2, .null, .null, .null, .null, .null, .int 0, .int 0]), .inl (5, [.ref 3, .ref 4, .ref 5, .ref 6, .ref 7, .ref 8, .ref 9, .int 0]), .inr (0, 240, .inl (fun _ => 0)), .inr (0, 6, .inl A3_0), .inr (0, 6, .inl A4_0), .inr (0, 6, .inl (fun _ => 0)), .inr (0, 6, .inl (fun _ => 0)), .inr (1, 6, .inr (.inl (fun _ => 0))), .inr (1, 6, .inr (.inl (fun _ => 0))), .inl (2, [.ref 2, .int 0, .int 45, .int 0])])) : Call X 23 [.ref 10, .ref 2] (nt pn [.inl (7, [.ref 2, .null, .null, .null, .null, .null, .int 0, .int 0]), .inl (5, [.ref 3, .ref 4, .ref 5, .ref 6, .ref 7, .ref 8, .ref 9, .int 0]), .inr (0, 240, .inl (fun _ => 0)), .inr (0, 6, .inl A3_0), .inr (0, 6, .inl A4_0), .inr (0, 6, .inl (fun _ => 0)), .inr (0, 6, .inl (fun _ => 0)), .inr (1, 6, .inr (.inl (fun _ => 0))), .inr (1, 6, .inr (.inl (fun _ => 0))), .inl (2, dfl 2)]) Q := by
  refine call_of (by decide) rfl rfl ?_
  refine a_aload_n (i := 0) q23_0 rfl rfl ?_
  refine a_objInit q23_1 rfl ?_
  refine a_aload_n (i := 0) q23_4 rfl rfl ?_
  refine a_aload_n (i := 1) q23_5 rfl rfl ?_
  refine a_putfield q23_6 rfl rfl rfl rfl ?_
  refine AW.hp (h' := (nt pn [.inl (7, [.ref 2, .null, .null, .null, .null, .null, .int 0, .int 0]), .inl (5, [.ref 3, .ref 4, .ref 5, .ref 6, .ref 7, .ref 8, .ref 9, .int 0]), .inr (0, 240, .inl (fun _ => 0)), .inr (0, 6, .inl A3_0), .inr (0, 6, .inl A4_0), .inr (0, 6, .inl (fun _ => 0)), .inr (0, 6, .inl (fun _ => 0)), .inr (1, 6, .inr (.inl (fun _ => 0))), .inr (1, 6, .inr (.inl (fun _ => 0))), .inl (2, [.ref 2, .int 0, .int 0, .int 0])])) rfl ?_
  refine a_aload_n (i := 0) q23_9 rfl rfl ?_
  refine a_bipush (v := 45) q23_10 (by decide) ?_
  refine a_putfield q23_12 rfl rfl rfl rfl ?_
  refine AW.hp (h' := (nt pn [.inl (7, [.ref 2, .null, .null, .null, .null, .null, .int 0, .int 0]), .inl (5, [.ref 3, .ref 4, .ref 5, .ref 6, .ref 7, .ref 8, .ref 9, .int 0]), .inr (0, 240, .inl (fun _ => 0)), .inr (0, 6, .inl A3_0), .inr (0, 6, .inl A4_0), .inr (0, 6, .inl (fun _ => 0)), .inr (0, 6, .inl (fun _ => 0)), .inr (1, 6, .inr (.inl (fun _ => 0))), .inr (1, 6, .inr (.inl (fun _ => 0))), .inl (2, [.ref 2, .int 0, .int 45, .int 0])])) rfl ?_
  refine a_return q23_15 rfl ?_
  exact hq

theorem c_X2_init {X : XS} {pn : Nat → Int32} {Q : AO → AH → Prop}  (hq : Q (.inl none) (nt pn [.inl (7, [.ref 2, .ref 10, .null, .null, .null, .null, .int 0, .int 0]), .inl (5, [.ref 3, .ref 4, .ref 5, .ref 6, .ref 7, .ref 8, .ref 9, .int 0]), .inr (0, 240, .inl (fun _ => 0)), .inr (0, 6, .inl A3_0), .inr (0, 6, .inl A4_0), .inr (0, 6, .inl (fun _ => 0)), .inr (0, 6, .inl (fun _ => 0)), .inr (1, 6, .inr (.inl (fun _ => 0))), .inr (1, 6, .inr (.inl (fun _ => 0))), .inl (2, [.ref 2, .int 0, .int 45, .int 0]), .inl (1, [.ref 2, .ref 12]), .inr (0, 8, .inl ro_w)])) : Call X 16 [.ref 11, .ref 2] (nt pn [.inl (7, [.ref 2, .ref 10, .null, .null, .null, .null, .int 0, .int 0]), .inl (5, [.ref 3, .ref 4, .ref 5, .ref 6, .ref 7, .ref 8, .ref 9, .int 0]), .inr (0, 240, .inl (fun _ => 0)), .inr (0, 6, .inl A3_0), .inr (0, 6, .inl A4_0), .inr (0, 6, .inl (fun _ => 0)), .inr (0, 6, .inl (fun _ => 0)), .inr (1, 6, .inr (.inl (fun _ => 0))), .inr (1, 6, .inr (.inl (fun _ => 0))), .inl (2, [.ref 2, .int 0, .int 45, .int 0]), .inl (1, dfl 1)]) Q := by
  refine call_of (by decide) rfl rfl ?_
  refine a_aload_n (i := 0) q16_0 rfl rfl ?_
  refine a_objInit q16_1 rfl ?_
  refine a_aload_n (i := 0) q16_4 rfl rfl ?_
  refine a_aload_n (i := 1) q16_5 rfl rfl ?_
  refine a_putfield q16_6 rfl rfl rfl rfl ?_
  refine AW.hp (h' := (nt pn [.inl (7, [.ref 2, .ref 10, .null, .null, .null, .null, .int 0, .int 0]), .inl (5, [.ref 3, .ref 4, .ref 5, .ref 6, .ref 7, .ref 8, .ref 9, .int 0]), .inr (0, 240, .inl (fun _ => 0)), .inr (0, 6, .inl A3_0), .inr (0, 6, .inl A4_0), .inr (0, 6, .inl (fun _ => 0)), .inr (0, 6, .inl (fun _ => 0)), .inr (1, 6, .inr (.inl (fun _ => 0))), .inr (1, 6, .inr (.inl (fun _ => 0))), .inl (2, [.ref 2, .int 0, .int 45, .int 0]), .inl (1, [.ref 2, .null])])) rfl ?_
  refine a_aload_n (i := 0) q16_9 rfl rfl ?_
  refine a_getstatic q16_10 ?_
  refine a_clone (kn := 12) q16_13 rfl rfl (by decide) rfl ⟨rfl, rfl⟩ ?_
  refine a_castI q16_16 rfl ?_
  refine a_putfield q16_19 rfl rfl rfl rfl ?_
  refine AW.hp (h' := (nt pn [.inl (7, [.ref 2, .ref 10, .null, .null, .null, .null, .int 0, .int 0]), .inl (5, [.ref 3, .ref 4, .ref 5, .ref 6, .ref 7, .ref 8, .ref 9, .int 0]), .inr (0, 240, .inl (fun _ => 0)), .inr (0, 6, .inl A3_0), .inr (0, 6, .inl A4_0), .inr (0, 6, .inl (fun _ => 0)), .inr (0, 6, .inl (fun _ => 0)), .inr (1, 6, .inr (.inl (fun _ => 0))), .inr (1, 6, .inr (.inl (fun _ => 0))), .inl (2, [.ref 2, .int 0, .int 45, .int 0]), .inl (1, [.ref 2, .ref 12]), .inr (0, 8, .inl ro_w)])) rfl ?_
  refine a_return q16_22 rfl ?_
  exact hq

theorem c_X0_init_1 {X : XS} {pn : Nat → Int32} {Q : AO → AH → Prop}  (hq : Q (.inl none) (nt pn [.inl (7, [.ref 2, .ref 10, .ref 11, .null, .null, .null, .int 0, .int 0]), .inl (5, [.ref 3, .ref 4, .ref 5, .ref 6, .ref 7, .ref 8, .ref 9, .int 0]), .inr (0, 240, .inl (fun _ => 0)), .inr (0, 6, .inl A3_0), .inr (0, 6, .inl A4_0), .inr (0, 6, .inl (fun _ => 0)), .inr (0, 6, .inl (fun _ => 0)), .inr (1, 6, .inr (.inl (fun _ => 0))), .inr (1, 6, .inr (.inl (fun _ => 0))), .inl (2, [.ref 2, .int 0, .int 45, .int 0]), .inl (1, [.ref 2, .ref 12]), .inr (0, 8, .inl ro_w), .inl (4, dfl 4), .inl (0, [.ref 15, .int 0]), .inr (1, 5, .inr (.inl (fun _ => 0)))])) : Call X 0 [.ref 14] (nt pn [.inl (7, [.ref 2, .ref 10, .ref 11, .null, .null, .null, .int 0, .int 0]), .inl (5, [.ref 3, .ref 4, .ref 5, .ref 6, .ref 7, .ref 8, .ref 9, .int 0]), .inr (0, 240, .inl (fun _ => 0)), .inr (0, 6, .inl A3_0), .inr (0, 6, .inl A4_0), .inr (0, 6, .inl (fun _ => 0)), .inr (0, 6, .inl (fun _ => 0)), .inr (1, 6, .inr (.inl (fun _ => 0))), .inr (1, 6, .inr (.inl (fun _ => 0))), .inl (2, [.ref 2, .int 0, .int 45, .int 0]), .inl (1, [.ref 2, .ref 12]), .inr (0, 8, .inl ro_w), .inl (4, dfl 4), .inl (0, dfl 0)]) Q := by
  refine call_of (by decide) rfl rfl ?_
  refine a_aload_n (i := 0) q0_0 rfl rfl ?_
  refine a_objInit q0_1 rfl ?_
  refine a_aload_n (i := 0) q0_4 rfl rfl ?_
  refine a_iconst (v := 5) q0_5 (by decide) ?_
  refine a_newarray (a := 1) (kn := 15) (N := 5) q0_6 (by decide) rfl (by decide) rfl (by decide) rfl ⟨rfl, rfl⟩ ?_
  refine a_putfield q0_8 rfl rfl rfl rfl ?_
  refine AW.hp (h' := (nt pn [.inl (7, [.ref 2, .ref 10, .ref 11, .null, .null, .null, .int 0, .int 0]), .inl (5, [.ref 3, .ref 4, .ref 5, .ref 6, .ref 7, .ref 8, .ref 9, .int 0]), .inr (0, 240, .inl (fun _ => 0)), .inr (0, 6, .inl A3_0), .inr (0, 6, .inl A4_0), .inr (0, 6, .inl (fun _ => 0)), .inr (0, 6, .inl (fun _ => 0)), .inr (1, 6, .inr (.inl (fun _ => 0))), .inr (1, 6, .inr (.inl (fun _ => 0))), .inl (2, [.ref 2, .int 0, .int 45, .int 0]), .inl (1, [.ref 2, .ref 12]), .inr (0, 8, .inl ro_w), .inl (4, dfl 4), .inl (0, [.ref 15, .int 0]), .inr (1, 5, .inr (.inl (fun _ => 0)))])) rfl ?_
  refine a_return q0_11 rfl ?_
  exact hq

theorem c_X0_init_2 {X : XS} {pn : Nat → Int32} {Q : AO → AH → Prop}  (hq : Q (.inl none) (nt pn [.inl (7, [.ref 2, .ref 10, .ref 11, .ref 13, .null, .null, .int 0, .int 0]), .inl (5, [.ref 3, .ref 4, .ref 5, .ref 6, .ref 7, .ref 8, .ref 9, .int 0]), .inr (0, 240, .inl (fun _ => 0)), .inr (0, 6, .inl A3_0), .inr (0, 6, .inl A4_0), .inr (0, 6, .inl (fun _ => 0)), .inr (0, 6, .inl (fun _ => 0)), .inr (1, 6, .inr (.inl (fun _ => 0))), .inr (1, 6, .inr (.inl (fun _ => 0))), .inl (2, [.ref 2, .int 0, .int 45, .int 0]), .inl (1, [.ref 2, .ref 12]), .inr (0, 8, .inl ro_w), .inl (4, [.ref 10, .ref 11, .ref 14, .int 1]), .inl (0, [.ref 15, .int 0]), .inr (1, 5, .inr (.inl (fun _ => 0))), .inl (6, dfl 6), .inl (0, [.ref 18, .int 0]), .inr (1, 5, .inr (.inl (fun _ => 0)))])) : Call X 0 [.ref 17] (nt pn [.inl (7, [.ref 2, .ref 10, .ref 11, .ref 13, .null, .null, .int 0, .int 0]), .inl (5, [.ref 3, .ref 4, .ref 5, .ref 6, .ref 7, .ref 8, .ref 9, .int 0]), .inr (0, 240, .inl (fun _ => 0)), .inr (0, 6, .inl A3_0), .inr (0, 6, .inl A4_0), .inr (0, 6, .inl (fun _ => 0)), .inr (0, 6, .inl (fun _ => 0)), .inr (1, 6, .inr (.inl (fun _ => 0))), .inr (1, 6, .inr (.inl (fun _ => 0))), .inl (2, [.ref 2, .int 0, .int 45, .int 0]), .inl (1, [.ref 2, .ref 12]), .inr (0, 8, .inl ro_w), .inl (4, [.ref 10, .ref 11, .ref 14, .int 1]), .inl (0, [.ref 15, .int 0]), .inr (1, 5, .inr (.inl (fun _ => 0))), .inl (6, dfl 6), .inl (0, dfl 0)]) Q := by
  refine call_of (by decide) rfl rfl ?_
  refine a_aload_n (i := 0) q0_0 rfl rfl ?_
  refine a_objInit q0_1 rfl ?_
  refine a_aload_n (i := 0) q0_4 rfl rfl ?_
  refine a_iconst (v := 5) q0_5 (by decide) ?_
  refine a_newarray (a := 1) (kn := 18) (N := 5) q0_6 (by decide) rfl (by decide) rfl (by decide) rfl ⟨rfl, rfl⟩ ?_
  refine a_putfield q0_8 rfl rfl rfl rfl ?_
  refine AW.hp (h' := (nt pn [.inl (7, [.ref 2, .ref 10, .ref 11, .ref 13, .null, .null, .int 0, .int 0]), .inl (5, [.ref 3, .ref 4, .ref 5, .ref 6, .ref 7, .ref 8, .ref 9, .int 0]), .inr (0, 240, .inl (fun _ => 0)), .inr (0, 6, .inl A3_0), .inr (0, 6, .inl A4_0), .inr (0, 6, .inl (fun _ => 0)), .inr (0, 6, .inl (fun _ => 0)), .inr (1, 6, .inr (.inl (fun _ => 0))), .inr (1, 6, .inr (.inl (fun _ => 0))), .inl (2, [.ref 2, .int 0, .int 45, .int 0]), .inl (1, [.ref 2, .ref 12]), .inr (0, 8, .inl ro_w), .inl (4, [.ref 10, .ref 11, .ref 14, .int 1]), .inl (0, [.ref 15, .int 0]), .inr (1, 5, .inr (.inl (fun _ => 0))), .inl (6, dfl 6), .inl (0, [.ref 18, .int 0]), .inr (1, 5, .inr (.inl (fun _ => 0)))])) rfl ?_
  refine a_return q0_11 rfl ?_
  exact hq

theorem c_X6_init {X : XS} {pn : Nat → Int32} {Q : AO → AH → Prop}  (hq : Q (.inl none) (nt pn [.inl (7, [.ref 2, .ref 10, .ref 11, .null, .null, .null, .int 0, .int 0]), .inl (5, [.ref 3, .ref 4, .ref 5, .ref 6, .ref 7, .ref 8, .ref 9, .int 0]), .inr (0, 240, .inl (fun _ => 0)), .inr (0, 6, .inl A3_0), .inr (0, 6, .inl A4_0), .inr (0, 6, .inl (fun _ => 0)), .inr (0, 6, .inl (fun _ => 0)), .inr (1, 6, .inr (.inl (fun _ => 0))), .inr (1, 6, .inr (.inl (fun _ => 0))), .inl (2, [.ref 2, .int 0, .int 45, .int 0]), .inl (1, [.ref 2, .ref 12]), .inr (0, 8, .inl ro_w), .inl (4, [.ref 10, .ref 11, .ref 14, .int 1]), .inl (0, [.ref 15, .int 0]), .inr (1, 5, .inr (.inl (fun _ => 0)))])) : Call X 37 [.ref 13, .ref 10, .ref 11] (nt pn [.inl (7, [.ref 2, .ref 10, .ref 11, .null, .null, .null, .int 0, .int 0]), .inl (5, [.ref 3, .ref 4, .ref 5, .ref 6, .ref 7, .ref 8, .ref 9, .int 0]), .inr (0, 240, .inl (fun _ => 0)), .inr (0, 6, .inl A3_0), .inr (0, 6, .inl A4_0), .inr (0, 6, .inl (fun _ => 0)), .inr (0, 6, .inl (fun _ => 0)), .inr (1, 6, .inr (.inl (fun _ => 0))), .inr (1, 6, .inr (.inl (fun _ => 0))), .inl (2, [.ref 2, .int 0, .int 45, .int 0]), .inl (1, [.ref 2, .ref 12]), .inr (0, 8, .inl ro_w), .inl (4, dfl 4)]) Q := by
  refine call_of (by decide) rfl rfl ?_
  refine a_aload_n (i := 0) q37_0 rfl rfl ?_
  refine a_objInit q37_1 rfl ?_
  refine a_aload_n (i := 0) q37_4 rfl rfl ?_
  refine a_new (a := 0) (kn := 14) q37_5 rfl (by decide) rfl ⟨rfl, rfl⟩ ?_
  refine a_dup q37_8 rfl ?_
  refine a_callI (as := []) q37_9 rfl rfl ⟨rfl, rfl⟩ (Or.inr ⟨rfl, rfl, rfl⟩) (c_X0_init_1 (ck_v ?_))
  refine a_putfield q37_12 rfl rfl rfl rfl ?_
  refine AW.hp (h' := (nt pn [.inl (7, [.ref 2, .ref 10, .ref 11, .null, .null, .null, .int 0, .int 0]), .inl (5, [.ref 3, .ref 4, .ref 5, .ref 6, .ref 7, .ref 8, .ref 9, .int 0]), .inr (0, 240, .inl (fun _ => 0)), .inr (0, 6, .inl A3_0), .inr (0, 6, .inl A4_0), .inr (0, 6, .inl (fun _ => 0)), .inr (0, 6, .inl (fun _ => 0)), .inr (1, 6, .inr (.inl (fun _ => 0))), .inr (1, 6, .inr (.inl (fun _ => 0))), .inl (2, [.ref 2, .int 0, .int 45, .int 0]), .inl (1, [.ref 2, .ref 12]), .inr (0, 8, .inl ro_w), .inl (4, [.null, .null, .ref 14, .int 0]), .inl (0, [.ref 15, .int 0]), .inr (1, 5, .inr (.inl (fun _ => 0)))])) rfl ?_
  refine a_aload_n (i := 0) q37_15 rfl rfl ?_
  refine a_iconst (v := 1) q37_16 (by decide) ?_
  refine a_putfield q37_17 rfl rfl rfl rfl ?_
  refine AW.hp (h' := (nt pn [.inl (7, [.ref 2, .ref 10, .ref 11, .null, .null, .null, .int 0, .int 0]), .inl (5, [.ref 3, .ref 4, .ref 5, .ref 6, .ref 7, .ref 8, .ref 9, .int 0]), .inr (0, 240, .inl (fun _ => 0)), .inr (0, 6, .inl A3_0), .inr (0, 6, .inl A4_0), .inr (0, 6, .inl (fun _ => 0)), .inr (0, 6, .inl (fun _ => 0)), .inr (1, 6, .inr (.inl (fun _ => 0))), .inr (1, 6, .inr (.inl (fun _ => 0))), .inl (2, [.ref 2, .int 0, .int 45, .int 0]), .inl (1, [.ref 2, .ref 12]), .inr (0, 8, .inl ro_w), .inl (4, [.null, .null, .ref 14, .int 1]), .inl (0, [.ref 15, .int 0]), .inr (1, 5, .inr (.inl (fun _ => 0)))])) rfl ?_
  refine a_aload_n (i := 0) q37_20 rfl rfl ?_
  refine a_aload_n (i := 1) q37_21 rfl rfl ?_
  refine a_putfield q37_22 rfl rfl rfl rfl ?_
  refine AW.hp (h' := (nt pn [.inl (7, [.ref 2, .ref 10, .ref 11, .null, .null, .null, .int 0, .int 0]), .inl (5, [.ref 3, .ref 4, .ref 5, .ref 6, .ref 7, .ref 8, .ref 9, .int 0]), .inr (0, 240, .inl (fun _ => 0)), .inr (0, 6, .inl A3_0), .inr (0, 6, .inl A4_0), .inr (0, 6, .inl (fun _ => 0)), .inr (0, 6, .inl (fun _ => 0)), .inr (1, 6, .inr (.inl (fun _ => 0))), .inr (1, 6, .inr (.inl (fun _ => 0))), .inl (2, [.ref 2, .int 0, .int 45, .int 0]), .inl (1, [.ref 2, .ref 12]), .inr (0, 8, .inl ro_w), .inl (4, [.ref 10, .null, .ref 14, .int 1]), .inl (0, [.ref 15, .int 0]), .inr (1, 5, .inr (.inl (fun _ => 0)))])) rfl ?_
  refine a_aload_n (i := 0) q37_25 rfl rfl ?_
  refine a_aload_n (i := 2) q37_26 rfl rfl ?_
  refine a_putfield q37_27 rfl rfl rfl rfl ?_
  refine AW.hp (h' := (nt pn [.inl (7, [.ref 2, .ref 10, .ref 11, .null, .null, .null, .int 0, .int 0]), .inl (5, [.ref 3, .ref 4, .ref 5, .ref 6, .ref 7, .ref 8, .ref 9, .int 0]), .inr (0, 240, .inl (fun _ => 0)), .inr (0, 6, .inl A3_0), .inr (0, 6, .inl A4_0), .inr (0, 6, .inl (fun _ => 0)), .inr (0, 6, .inl (fun _ => 0)), .inr (1, 6, .inr (.inl (fun _ => 0))), .inr (1, 6, .inr (.inl (fun _ => 0))), .inl (2, [.ref 2, .int 0, .int 45, .int 0]), .inl (1, [.ref 2, .ref 12]), .inr (0, 8, .inl ro_w), .inl (4, [.ref 10, .ref 11, .ref 14, .int 1]), .inl (0, [.ref 15, .int 0]), .inr (1, 5, .inr (.inl (fun _ => 0)))])) rfl ?_
  refine a_return q37_30 rfl ?_
  exact hq

def plR (c : Int32) : Nat → Nat → Int32 → Int32
  | 0, _, _ => 1
  | m + 1, k, s => if g_col c (nI k) = -1 then plR c m (k + 1) s else if 6 ≤ g_col c (nI k) then 0 else if (s >>> (g_col c (nI k) &&& 31)) &&& 1 = 0 then plR c m (k + 1) (s ||| ((1 : Int32) <<< (g_col c (nI k) &&& 31))) else 0
theorem plR_01 (c : Int32) : ∀ m k s, plR c m k s = 0 ∨ plR c m k s = 1
  | 0, _, _ => Or.inr rfl
  | m + 1, k, s => by
    rw [plR]; split
    · exact plR_01 c m _ _
    · split
      · exact Or.inl rfl
      · split
        · exact plR_01 c m _ _
        · exact Or.inl rfl
theorem l_isPl (m : Nat) : ∀ {X : XS} {h : AH} {Q : AO → AH → Prop} {c s : Int32} {k : Nat} (hm : k + m = 4) (hq : Q (.inl (some (.int (plR c m k s)))) h), AW X 15 4 [(0, .int c), (1, .int s), (2, .int (nI k))] [] h 0 0 Q := by
  induction m with
  | zero =>
    intro X h Q c s k hm hq
    refine a_iload_n (i := 2) q15_4 rfl rfl ?_
    refine a_iconst (v := 4) q15_5 (by decide) ?_
    refine a_icmp_ge (tgt := 48) q15_6 (by decide) (fun zc6 => ?_) (fun zc6 => absurd (nI_le (show 4 ≤ k by omega) (by omega)) zc6)
    refine a_iconst (v := 1) q15_48 (by decide) ?_
    refine a_ireturn q15_49 (nr_bool rfl (by decide)) ?_
    exact hq
  | succ m ih =>
    intro X h Q c s k hm hq
    refine a_iload_n (i := 2) q15_4 rfl rfl ?_
    refine a_iconst (v := 4) q15_5 (by decide) ?_
    refine a_icmp_ge (tgt := 48) q15_6 (by decide) (fun zc6 => absurd zc6 (nI_ge (show k < 4 by omega) (by decide))) (fun zc6 => ?_)
    refine a_iload_n (i := 0) q15_9 rfl rfl ?_
    refine a_iload_n (i := 2) q15_10 rfl rfl ?_
    refine a_cs2 q15_11 rfl ⟨rfl, rfl⟩ rfl ?_
    refine c_X1_columnIn ?_
    refine ck_r ?_
    refine a_istore_n (i := 3) (lv' := [(0, _), (1, _), (2, _), (3, _)]) q15_14 rfl rfl rfl ?_
    refine a_iload_n (i := 3) q15_15 rfl rfl ?_
    refine a_iconst (v := (-1)) q15_16 (by decide) ?_
    refine a_icmp_eq (tgt := 42) q15_17 (by decide) (fun zc17 => ?_) (fun zc17 => ?_)
    · skip
      refine a_iinc (v := nI (k + 1)) (lv' := [(0, _), (1, _), (2, _), (3, _)]) q15_42 rfl rfl (nI_1 (k)) rfl ?_
      refine a_goto (tgt := 4) q15_45 (by decide) ?_
      refine AW.pop_less (x := (3, _)) (lv' := [(0, _), (1, _), (2, _)]) ?_
      rw [plR, if_pos zc17] at hq
      exact ih (show k + 1 + m = 4 by omega) hq
    · skip
      refine a_iload_n (i := 3) q15_20 rfl rfl ?_
      refine a_bipush (v := 6) q15_21 (by decide) ?_
      refine a_icmp_ge (tgt := 34) q15_23 (by decide) (fun zc23 => ?_) (fun zc23 => ?_)
      · skip
        refine a_iconst (v := 0) q15_34 (by decide) ?_
        refine a_ireturn q15_35 (nr_bool rfl (by decide)) ?_
        rw [plR, if_neg zc17, if_pos zc23] at hq
        exact hq
      · skip
        refine a_iload_n (i := 1) q15_26 rfl rfl ?_
        refine a_iload_n (i := 3) q15_27 rfl rfl ?_
        refine a_ishr q15_28 ?_
        refine a_iconst (v := 1) q15_29 (by decide) ?_
        refine a_iand q15_30 ?_
        refine a_if_eq (tgt := 36) q15_31 (by decide) (fun zc31 => ?_) (fun zc31 => ?_)
        · skip
          refine a_iload_n (i := 1) q15_36 rfl rfl ?_
          refine a_iconst (v := 1) q15_37 (by decide) ?_
          refine a_iload_n (i := 3) q15_38 rfl rfl ?_
          refine a_ishl q15_39 ?_
          refine a_ior q15_40 ?_
          refine a_istore_n (i := 1) (lv' := [(0, _), (1, _), (2, _), (3, _)]) q15_41 rfl rfl rfl ?_
          refine a_iinc (v := nI (k + 1)) (lv' := [(0, _), (1, _), (2, _), (3, _)]) q15_42 rfl rfl (nI_1 (k)) rfl ?_
          refine a_goto (tgt := 4) q15_45 (by decide) ?_
          refine AW.pop_less (x := (3, _)) (lv' := [(0, _), (1, _), (2, _)]) ?_
          rw [plR, if_neg zc17, if_neg zc23, if_pos zc31] at hq
          exact ih (show k + 1 + m = 4 by omega) hq
        · skip
          refine a_iconst (v := 0) q15_34 (by decide) ?_
          refine a_ireturn q15_35 (nr_bool rfl (by decide)) ?_
          rw [plR, if_neg zc17, if_neg zc23, if_neg zc31] at hq
          exact hq

theorem c_X1_isPlacement {X : XS} {h : AH} {Q : AO → AH → Prop} {c : Int32} (hq : Q (.inl (some (.int (plR c 4 0 0)))) h) : Call X 15 [.int c] h Q := by
  refine call_of (by decide) rfl rfl ?_
  refine a_iconst (v := 0) q15_0 (by decide) ?_
  refine a_istore_n (i := 1) (lv' := [(0, _), (1, _)]) q15_1 rfl rfl rfl ?_
  refine a_iconst (v := 0) q15_2 (by decide) ?_
  refine a_istore_n (i := 2) (lv' := [(0, _), (1, _), (2, _)]) q15_3 rfl rfl rfl ?_
  exact l_isPl 4 (k := 0) rfl hq

def plS (i : Nat) (s : (Nat → Int32) × Nat) : (Nat → Int32) × Nat := if s.2 < 1045 then (if plR (nI i) 4 0 0 = 0 then s else (upd s.1 s.2 (nI i), s.2 + 1)) else s
def s00 : (Nat → Int32) × Nat := (fun _ => 0, 0)
def PLC : Nat → Int32 := (fl plS 4096 0 s00).1

def h18 (pn : Nat → Int32) : AH := (nt pn [.inl (7, [.ref 2, .ref 10, .ref 11, .ref 13, .null, .null, .int 0, .int 0]), .inl (5, [.ref 3, .ref 4, .ref 5, .ref 6, .ref 7, .ref 8, .ref 9, .int 0]), .inr (0, 240, .inl (fun _ => 0)), .inr (0, 6, .inl A3_0), .inr (0, 6, .inl A4_0), .inr (0, 6, .inl (fun _ => 0)), .inr (0, 6, .inl (fun _ => 0)), .inr (1, 6, .inr (.inl (fun _ => 0))), .inr (1, 6, .inr (.inl (fun _ => 0))), .inl (2, [.ref 2, .int 0, .int 45, .int 0]), .inl (1, [.ref 2, .ref 12]), .inr (0, 8, .inl ro_w), .inl (4, [.ref 10, .ref 11, .ref 14, .int 1]), .inl (0, [.ref 15, .int 0]), .inr (1, 5, .inr (.inl (fun _ => 0))), .inl (6, [.ref 10, .ref 11, .ref 17, .null, .int 0, .int 0]), .inl (0, [.ref 18, .int 0]), .inr (1, 5, .inr (.inl (fun _ => 0)))])
theorem l_list (m : Nat) : ∀ {X : XS} {h : AH} {pn : Nat → Int32} {Q : AO → AH → Prop} {s : (Nat → Int32) × Nat} {F : Nat → Int32} {i : Nat} (hk : s.2 ≤ 1045) (hm : i + m = 4096) (hF : (fl plS m i s).1 = F) (hq : Q (.inl (some (.ref 19))) ((h18 pn) ++ [.inr (0, 1045, .inl F)])), AW X 70 10 [(0, .ref 19), (1, .int (nI s.2)), (2, .int (nI i))] [] ((h18 pn) ++ [.inr (0, 1045, .inl s.1)]) 0 0 Q := by
  induction m with
  | zero =>
    intro X h pn Q s F i hk hm hF hq
    refine a_iload_n (i := 2) q70_10 rfl rfl ?_
    refine a_sipush (v := 4096) q70_11 (by decide) ?_
    refine a_icmp_ge (tgt := 43) q70_14 (by decide) (fun zc14 => ?_) (fun zc14 => absurd (nI_le (show 4096 ≤ i by omega) (by omega)) zc14)
    refine a_aload_n (i := 0) q70_43 rfl rfl ?_
    refine a_areturn q70_44 ⟨_, rfl, Or.inr ⟨_, rfl⟩⟩ ?_
    have hF2 : s.1 = F := hF
    rw [hF2]; exact hq
  | succ m ih =>
    intro X h pn Q s F i hk hm hF hq
    refine a_iload_n (i := 2) q70_10 rfl rfl ?_
    refine a_sipush (v := 4096) q70_11 (by decide) ?_
    refine a_icmp_ge (tgt := 43) q70_14 (by decide) (fun zc14 => absurd zc14 (nI_ge (show i < 4096 by omega) (by decide))) (fun zc14 => ?_)
    refine a_iload_n (i := 1) q70_17 rfl rfl ?_
    refine a_aload_n (i := 0) q70_18 rfl rfl ?_
    refine a_alen (v := 1045) q70_19 rfl (by decide) rfl ?_
    refine a_icmp_ge (tgt := 37) q70_20 (by decide) (fun zc20 => ?_) (fun zc20 => ?_)
    · skip
      refine a_iinc (v := nI (i + 1)) (lv' := [(0, _), (1, _), (2, _)]) q70_37 rfl rfl (nI_1 (i)) rfl ?_
      refine a_goto (tgt := 10) q70_40 (by decide) ?_
      have ze : plS i s = s := if_neg (fun zz => nI_ge zz (by decide) zc20)
      rw [fl, ze] at hF
      exact ih (h := h) (s := s) hk (show i + 1 + m = 4096 by omega) hF hq
    · skip
      have zlt : s.2 < 1045 := Nat.lt_of_not_le (fun zz => zc20 (nI_le zz (by omega)))
      refine a_iload_n (i := 2) q70_23 rfl rfl ?_
      refine a_cs1 q70_24 rfl ⟨rfl, rfl⟩ rfl ?_
      refine c_X1_isPlacement ?_
      refine ck_r ?_
      refine a_if_eq (tgt := 37) q70_27 (by decide) (fun zc27 => ?_) (fun zc27 => ?_)
      · skip
        refine a_iinc (v := nI (i + 1)) (lv' := [(0, _), (1, _), (2, _)]) q70_37 rfl rfl (nI_1 (i)) rfl ?_
        refine a_goto (tgt := 10) q70_40 (by decide) ?_
        have ze : plS i s = s := (if_pos zlt).trans (if_pos zc27)
        rw [fl, ze] at hF
        exact ih (h := h) (s := s) hk (show i + 1 + m = 4096 by omega) hF hq
      · skip
        refine a_aload_n (i := 0) q70_30 rfl rfl ?_
        refine a_iload_n (i := 1) q70_31 rfl rfl ?_
        refine a_iload_n (i := 2) q70_32 rfl rfl ?_
        refine a_iast' q70_33 rfl (j := s.2) rfl zlt (by decide) (h' := (h18 pn) ++ [.inr (0, 1045, .inl (upd s.1 s.2 (nI i)))]) rfl ?_
        refine a_iinc (v := nI (s.2 + 1)) (lv' := [(0, _), (1, _), (2, _)]) q70_34 rfl rfl (nI_1 (s.2)) rfl ?_
        refine a_iinc (v := nI (i + 1)) (lv' := [(0, _), (1, _), (2, _)]) q70_37 rfl rfl (nI_1 (i)) rfl ?_
        refine a_goto (tgt := 10) q70_40 (by decide) ?_
        have ze : plS i s = (upd s.1 s.2 (nI i), s.2 + 1) := (if_pos zlt).trans (if_neg zc27)
        rw [fl, ze] at hF
        exact ih (h := h) (s := (upd s.1 s.2 (nI i), s.2 + 1)) zlt (show i + 1 + m = 4096 by omega) hF hq

theorem c_X8_listPlacements {X : XS} {pn : Nat → Int32} {Q : AO → AH → Prop}  (hq : Q (.inl (some (.ref 19))) ((h18 pn) ++ [.inr (0, 1045, .inl PLC)])) : Call X 70 [] (h18 pn) Q := by
  refine call_of (by decide) rfl rfl ?_
  refine a_sipush (v := 1045) q70_0 (by decide) ?_
  refine a_newarray (a := 0) (kn := 19) (N := 1045) q70_3 (by decide) (nI_clamp (n := 1045) (by decide)) (by decide) rfl (by decide) rfl ⟨rfl, rfl⟩ ?_
  refine a_astore_n (i := 0) (lv' := [(0, _)]) q70_5 rfl rfl rfl ?_
  refine a_iconst (v := 0) q70_6 (by decide) ?_
  refine a_istore_n (i := 1) (lv' := [(0, _), (1, _)]) q70_7 rfl rfl rfl ?_
  refine a_iconst (v := 0) q70_8 (by decide) ?_
  refine a_istore_n (i := 2) (lv' := [(0, _), (1, _), (2, _)]) q70_9 rfl rfl rfl ?_
  refine AW.wide (bc' := 0) (bs' := 0) (Nat.zero_le _) (Nat.zero_le _) ?_
  refine AW.hp (h' := (h18 pn) ++ [.inr (0, 1045, .inl (fun _ => 0))]) rfl ?_
  exact l_list (h := []) 4096 (s := s00) (i := 0) (Nat.zero_le _) (Nat.zero_add _) PLC.eq_1.symm hq

/-! constructors, the rest -/
theorem c_X8_init {X : XS} {pn : Nat → Int32} {Q : AO → AH → Prop}  (hq : Q (.inl none) (nt pn [.inl (7, [.ref 2, .ref 10, .ref 11, .ref 13, .null, .null, .int 0, .int 0]), .inl (5, [.ref 3, .ref 4, .ref 5, .ref 6, .ref 7, .ref 8, .ref 9, .int 0]), .inr (0, 240, .inl (fun _ => 0)), .inr (0, 6, .inl A3_0), .inr (0, 6, .inl A4_0), .inr (0, 6, .inl (fun _ => 0)), .inr (0, 6, .inl (fun _ => 0)), .inr (1, 6, .inr (.inl (fun _ => 0))), .inr (1, 6, .inr (.inl (fun _ => 0))), .inl (2, [.ref 2, .int 0, .int 45, .int 0]), .inl (1, [.ref 2, .ref 12]), .inr (0, 8, .inl ro_w), .inl (4, [.ref 10, .ref 11, .ref 14, .int 1]), .inl (0, [.ref 15, .int 0]), .inr (1, 5, .inr (.inl (fun _ => 0))), .inl (6, [.ref 10, .ref 11, .ref 17, .ref 19, .int 0, .int 0]), .inl (0, [.ref 18, .int 0]), .inr (1, 5, .inr (.inl (fun _ => 0))), .inr (0, 1045, .inl PLC)])) : Call X 64 [.ref 16, .ref 10, .ref 11] (nt pn [.inl (7, [.ref 2, .ref 10, .ref 11, .ref 13, .null, .null, .int 0, .int 0]), .inl (5, [.ref 3, .ref 4, .ref 5, .ref 6, .ref 7, .ref 8, .ref 9, .int 0]), .inr (0, 240, .inl (fun _ => 0)), .inr (0, 6, .inl A3_0), .inr (0, 6, .inl A4_0), .inr (0, 6, .inl (fun _ => 0)), .inr (0, 6, .inl (fun _ => 0)), .inr (1, 6, .inr (.inl (fun _ => 0))), .inr (1, 6, .inr (.inl (fun _ => 0))), .inl (2, [.ref 2, .int 0, .int 45, .int 0]), .inl (1, [.ref 2, .ref 12]), .inr (0, 8, .inl ro_w), .inl (4, [.ref 10, .ref 11, .ref 14, .int 1]), .inl (0, [.ref 15, .int 0]), .inr (1, 5, .inr (.inl (fun _ => 0))), .inl (6, dfl 6)]) Q := by
  refine call_of (by decide) rfl rfl ?_
  refine a_aload_n (i := 0) q64_0 rfl rfl ?_
  refine a_objInit q64_1 rfl ?_
  refine a_aload_n (i := 0) q64_4 rfl rfl ?_
  refine a_new (a := 0) (kn := 17) q64_5 rfl (by decide) rfl ⟨rfl, rfl⟩ ?_
  refine a_dup q64_8 rfl ?_
  refine a_callI (as := []) q64_9 rfl rfl ⟨rfl, rfl⟩ (Or.inr ⟨rfl, rfl, rfl⟩) (c_X0_init_2 (ck_v ?_))
  refine a_putfield q64_12 rfl rfl rfl rfl ?_
  refine AW.hp (h' := (nt pn [.inl (7, [.ref 2, .ref 10, .ref 11, .ref 13, .null, .null, .int 0, .int 0]), .inl (5, [.ref 3, .ref 4, .ref 5, .ref 6, .ref 7, .ref 8, .ref 9, .int 0]), .inr (0, 240, .inl (fun _ => 0)), .inr (0, 6, .inl A3_0), .inr (0, 6, .inl A4_0), .inr (0, 6, .inl (fun _ => 0)), .inr (0, 6, .inl (fun _ => 0)), .inr (1, 6, .inr (.inl (fun _ => 0))), .inr (1, 6, .inr (.inl (fun _ => 0))), .inl (2, [.ref 2, .int 0, .int 45, .int 0]), .inl (1, [.ref 2, .ref 12]), .inr (0, 8, .inl ro_w), .inl (4, [.ref 10, .ref 11, .ref 14, .int 1]), .inl (0, [.ref 15, .int 0]), .inr (1, 5, .inr (.inl (fun _ => 0))), .inl (6, [.null, .null, .ref 17, .null, .int 0, .int 0]), .inl (0, [.ref 18, .int 0]), .inr (1, 5, .inr (.inl (fun _ => 0)))])) rfl ?_
  refine a_aload_n (i := 0) q64_15 rfl rfl ?_
  refine a_aload_n (i := 1) q64_16 rfl rfl ?_
  refine a_putfield q64_17 rfl rfl rfl rfl ?_
  refine AW.hp (h' := (nt pn [.inl (7, [.ref 2, .ref 10, .ref 11, .ref 13, .null, .null, .int 0, .int 0]), .inl (5, [.ref 3, .ref 4, .ref 5, .ref 6, .ref 7, .ref 8, .ref 9, .int 0]), .inr (0, 240, .inl (fun _ => 0)), .inr (0, 6, .inl A3_0), .inr (0, 6, .inl A4_0), .inr (0, 6, .inl (fun _ => 0)), .inr (0, 6, .inl (fun _ => 0)), .inr (1, 6, .inr (.inl (fun _ => 0))), .inr (1, 6, .inr (.inl (fun _ => 0))), .inl (2, [.ref 2, .int 0, .int 45, .int 0]), .inl (1, [.ref 2, .ref 12]), .inr (0, 8, .inl ro_w), .inl (4, [.ref 10, .ref 11, .ref 14, .int 1]), .inl (0, [.ref 15, .int 0]), .inr (1, 5, .inr (.inl (fun _ => 0))), .inl (6, [.ref 10, .null, .ref 17, .null, .int 0, .int 0]), .inl (0, [.ref 18, .int 0]), .inr (1, 5, .inr (.inl (fun _ => 0)))])) rfl ?_
  refine a_aload_n (i := 0) q64_20 rfl rfl ?_
  refine a_aload_n (i := 2) q64_21 rfl rfl ?_
  refine a_putfield q64_22 rfl rfl rfl rfl ?_
  refine AW.hp (h' := (h18 pn)) rfl ?_
  refine a_aload_n (i := 0) q64_25 rfl rfl ?_
  refine a_callS (as := []) q64_26 rfl rfl ⟨rfl, rfl⟩ (Or.inr ⟨rfl, rfl, rfl⟩) (c_X8_listPlacements (ck_r ?_))
  refine a_putfield q64_29 rfl rfl rfl rfl ?_
  refine AW.hp (h' := (nt pn [.inl (7, [.ref 2, .ref 10, .ref 11, .ref 13, .null, .null, .int 0, .int 0]), .inl (5, [.ref 3, .ref 4, .ref 5, .ref 6, .ref 7, .ref 8, .ref 9, .int 0]), .inr (0, 240, .inl (fun _ => 0)), .inr (0, 6, .inl A3_0), .inr (0, 6, .inl A4_0), .inr (0, 6, .inl (fun _ => 0)), .inr (0, 6, .inl (fun _ => 0)), .inr (1, 6, .inr (.inl (fun _ => 0))), .inr (1, 6, .inr (.inl (fun _ => 0))), .inl (2, [.ref 2, .int 0, .int 45, .int 0]), .inl (1, [.ref 2, .ref 12]), .inr (0, 8, .inl ro_w), .inl (4, [.ref 10, .ref 11, .ref 14, .int 1]), .inl (0, [.ref 15, .int 0]), .inr (1, 5, .inr (.inl (fun _ => 0))), .inl (6, [.ref 10, .ref 11, .ref 17, .ref 19, .int 0, .int 0]), .inl (0, [.ref 18, .int 0]), .inr (1, 5, .inr (.inl (fun _ => 0))), .inr (0, 1045, .inl PLC)])) rfl ?_
  refine a_return q64_32 rfl ?_
  exact hq

theorem c_X4_init {X : XS} {pn : Nat → Int32} {Q : AO → AH → Prop}  (hq : Q (.inl none) (nt pn [.inl (7, [.ref 2, .ref 10, .ref 11, .ref 13, .ref 16, .null, .int 0, .int 0]), .inl (5, [.ref 3, .ref 4, .ref 5, .ref 6, .ref 7, .ref 8, .ref 9, .int 0]), .inr (0, 240, .inl (fun _ => 0)), .inr (0, 6, .inl A3_0), .inr (0, 6, .inl A4_0), .inr (0, 6, .inl (fun _ => 0)), .inr (0, 6, .inl (fun _ => 0)), .inr (1, 6, .inr (.inl (fun _ => 0))), .inr (1, 6, .inr (.inl (fun _ => 0))), .inl (2, [.ref 2, .int 0, .int 45, .int 0]), .inl (1, [.ref 2, .ref 12]), .inr (0, 8, .inl ro_w), .inl (4, [.ref 10, .ref 11, .ref 14, .int 1]), .inl (0, [.ref 15, .int 0]), .inr (1, 5, .inr (.inl (fun _ => 0))), .inl (6, [.ref 10, .ref 11, .ref 17, .ref 19, .int 0, .int 0]), .inl (0, [.ref 18, .int 0]), .inr (1, 5, .inr (.inl (fun _ => 0))), .inr (0, 1045, .inl PLC), .inl (3, [.ref 21, .int 0, .int (-1)]), .inr (0, 4, .inl (fun _ => 0))])) : Call X 33 [.ref 20] (nt pn [.inl (7, [.ref 2, .ref 10, .ref 11, .ref 13, .ref 16, .null, .int 0, .int 0]), .inl (5, [.ref 3, .ref 4, .ref 5, .ref 6, .ref 7, .ref 8, .ref 9, .int 0]), .inr (0, 240, .inl (fun _ => 0)), .inr (0, 6, .inl A3_0), .inr (0, 6, .inl A4_0), .inr (0, 6, .inl (fun _ => 0)), .inr (0, 6, .inl (fun _ => 0)), .inr (1, 6, .inr (.inl (fun _ => 0))), .inr (1, 6, .inr (.inl (fun _ => 0))), .inl (2, [.ref 2, .int 0, .int 45, .int 0]), .inl (1, [.ref 2, .ref 12]), .inr (0, 8, .inl ro_w), .inl (4, [.ref 10, .ref 11, .ref 14, .int 1]), .inl (0, [.ref 15, .int 0]), .inr (1, 5, .inr (.inl (fun _ => 0))), .inl (6, [.ref 10, .ref 11, .ref 17, .ref 19, .int 0, .int 0]), .inl (0, [.ref 18, .int 0]), .inr (1, 5, .inr (.inl (fun _ => 0))), .inr (0, 1045, .inl PLC), .inl (3, dfl 3)]) Q := by
  refine call_of (by decide) rfl rfl ?_
  refine a_aload_n (i := 0) q33_0 rfl rfl ?_
  refine a_objInit q33_1 rfl ?_
  refine a_aload_n (i := 0) q33_4 rfl rfl ?_
  refine a_iconst (v := 4) q33_5 (by decide) ?_
  refine a_newarray (a := 0) (kn := 21) (N := 4) q33_6 (by decide) rfl (by decide) rfl (by decide) rfl ⟨rfl, rfl⟩ ?_
  refine a_putfield q33_8 rfl rfl rfl rfl ?_
  refine AW.hp (h' := (nt pn [.inl (7, [.ref 2, .ref 10, .ref 11, .ref 13, .ref 16, .null, .int 0, .int 0]), .inl (5, [.ref 3, .ref 4, .ref 5, .ref 6, .ref 7, .ref 8, .ref 9, .int 0]), .inr (0, 240, .inl (fun _ => 0)), .inr (0, 6, .inl A3_0), .inr (0, 6, .inl A4_0), .inr (0, 6, .inl (fun _ => 0)), .inr (0, 6, .inl (fun _ => 0)), .inr (1, 6, .inr (.inl (fun _ => 0))), .inr (1, 6, .inr (.inl (fun _ => 0))), .inl (2, [.ref 2, .int 0, .int 45, .int 0]), .inl (1, [.ref 2, .ref 12]), .inr (0, 8, .inl ro_w), .inl (4, [.ref 10, .ref 11, .ref 14, .int 1]), .inl (0, [.ref 15, .int 0]), .inr (1, 5, .inr (.inl (fun _ => 0))), .inl (6, [.ref 10, .ref 11, .ref 17, .ref 19, .int 0, .int 0]), .inl (0, [.ref 18, .int 0]), .inr (1, 5, .inr (.inl (fun _ => 0))), .inr (0, 1045, .inl PLC), .inl (3, [.ref 21, .int 0, .int 0]), .inr (0, 4, .inl (fun _ => 0))])) rfl ?_
  refine a_aload_n (i := 0) q33_11 rfl rfl ?_
  refine a_iconst (v := (-1)) q33_12 (by decide) ?_
  refine a_putfield q33_13 rfl rfl rfl rfl ?_
  refine AW.hp (h' := (nt pn [.inl (7, [.ref 2, .ref 10, .ref 11, .ref 13, .ref 16, .null, .int 0, .int 0]), .inl (5, [.ref 3, .ref 4, .ref 5, .ref 6, .ref 7, .ref 8, .ref 9, .int 0]), .inr (0, 240, .inl (fun _ => 0)), .inr (0, 6, .inl A3_0), .inr (0, 6, .inl A4_0), .inr (0, 6, .inl (fun _ => 0)), .inr (0, 6, .inl (fun _ => 0)), .inr (1, 6, .inr (.inl (fun _ => 0))), .inr (1, 6, .inr (.inl (fun _ => 0))), .inl (2, [.ref 2, .int 0, .int 45, .int 0]), .inl (1, [.ref 2, .ref 12]), .inr (0, 8, .inl ro_w), .inl (4, [.ref 10, .ref 11, .ref 14, .int 1]), .inl (0, [.ref 15, .int 0]), .inr (1, 5, .inr (.inl (fun _ => 0))), .inl (6, [.ref 10, .ref 11, .ref 17, .ref 19, .int 0, .int 0]), .inl (0, [.ref 18, .int 0]), .inr (1, 5, .inr (.inl (fun _ => 0))), .inr (0, 1045, .inl PLC), .inl (3, [.ref 21, .int 0, .int (-1)]), .inr (0, 4, .inl (fun _ => 0))])) rfl ?_
  refine a_return q33_16 rfl ?_
  exact hq

theorem c_X9_init {X : XS} {pn : Nat → Int32} {Q : AO → AH → Prop}  (hq : Q (.inl none) (nt pn [.inl (7, [.ref 2, .ref 10, .ref 11, .ref 13, .ref 16, .ref 20, .int 3, .int (g_bare 98 0)]), .inl (5, [.ref 3, .ref 4, .ref 5, .ref 6, .ref 7, .ref 8, .ref 9, .int 0]), .inr (0, 240, .inl (fun _ => 0)), .inr (0, 6, .inl A3_0), .inr (0, 6, .inl A4_0), .inr (0, 6, .inl (fun _ => 0)), .inr (0, 6, .inl (fun _ => 0)), .inr (1, 6, .inr (.inl (fun _ => 0))), .inr (1, 6, .inr (.inl (fun _ => 0))), .inl (2, [.ref 2, .int 0, .int 45, .int 0]), .inl (1, [.ref 2, .ref 12]), .inr (0, 8, .inl ro_w), .inl (4, [.ref 10, .ref 11, .ref 14, .int 1]), .inl (0, [.ref 15, .int 0]), .inr (1, 5, .inr (.inl (fun _ => 0))), .inl (6, [.ref 10, .ref 11, .ref 17, .ref 19, .int 0, .int 0]), .inl (0, [.ref 18, .int 0]), .inr (1, 5, .inr (.inl (fun _ => 0))), .inr (0, 1045, .inl PLC), .inl (3, [.ref 21, .int 0, .int (-1)]), .inr (0, 4, .inl (fun _ => 0))])) : Call X 71 [.ref 1] (nt pn [.inl (7, dfl 7)]) Q := by
  refine call_of (by decide) rfl rfl ?_
  refine a_aload_n (i := 0) q71_0 rfl rfl ?_
  refine a_objInit q71_1 rfl ?_
  refine a_aload_n (i := 0) q71_4 rfl rfl ?_
  refine a_new (a := 5) (kn := 2) q71_5 rfl (by decide) rfl ⟨rfl, rfl⟩ ?_
  refine a_dup q71_8 rfl ?_
  refine a_callI (as := []) q71_9 rfl rfl ⟨rfl, rfl⟩ (Or.inr ⟨rfl, rfl, rfl⟩) (c_X7_init (ck_v ?_))
  refine a_putfield q71_12 rfl rfl rfl rfl ?_
  refine AW.hp (h' := (nt pn [.inl (7, [.ref 2, .null, .null, .null, .null, .null, .int 0, .int 0]), .inl (5, [.ref 3, .ref 4, .ref 5, .ref 6, .ref 7, .ref 8, .ref 9, .int 0]), .inr (0, 240, .inl (fun _ => 0)), .inr (0, 6, .inl A3_0), .inr (0, 6, .inl A4_0), .inr (0, 6, .inl (fun _ => 0)), .inr (0, 6, .inl (fun _ => 0)), .inr (1, 6, .inr (.inl (fun _ => 0))), .inr (1, 6, .inr (.inl (fun _ => 0)))])) rfl ?_
  refine a_aload_n (i := 0) q71_15 rfl rfl ?_
  refine a_new (a := 2) (kn := 10) q71_16 rfl (by decide) rfl ⟨rfl, rfl⟩ ?_
  refine a_dup q71_19 rfl ?_
  refine a_aload_n (i := 0) q71_20 rfl rfl ?_
  refine a_getfield q71_21 rfl rfl ?_
  refine a_callI (as := [_]) q71_24 rfl rfl ⟨rfl, rfl⟩ (Or.inr ⟨rfl, rfl, rfl⟩) (c_X3_init (ck_v ?_))
  refine a_putfield q71_27 rfl rfl rfl rfl ?_
  refine AW.hp (h' := (nt pn [.inl (7, [.ref 2, .ref 10, .null, .null, .null, .null, .int 0, .int 0]), .inl (5, [.ref 3, .ref 4, .ref 5, .ref 6, .ref 7, .ref 8, .ref 9, .int 0]), .inr (0, 240, .inl (fun _ => 0)), .inr (0, 6, .inl A3_0), .inr (0, 6, .inl A4_0), .inr (0, 6, .inl (fun _ => 0)), .inr (0, 6, .inl (fun _ => 0)), .inr (1, 6, .inr (.inl (fun _ => 0))), .inr (1, 6, .inr (.inl (fun _ => 0))), .inl (2, [.ref 2, .int 0, .int 45, .int 0])])) rfl ?_
  refine a_aload_n (i := 0) q71_30 rfl rfl ?_
  refine a_new (a := 1) (kn := 11) q71_31 rfl (by decide) rfl ⟨rfl, rfl⟩ ?_
  refine a_dup q71_34 rfl ?_
  refine a_aload_n (i := 0) q71_35 rfl rfl ?_
  refine a_getfield q71_36 rfl rfl ?_
  refine a_callI (as := [_]) q71_39 rfl rfl ⟨rfl, rfl⟩ (Or.inr ⟨rfl, rfl, rfl⟩) (c_X2_init (ck_v ?_))
  refine a_putfield q71_42 rfl rfl rfl rfl ?_
  refine AW.hp (h' := (nt pn [.inl (7, [.ref 2, .ref 10, .ref 11, .null, .null, .null, .int 0, .int 0]), .inl (5, [.ref 3, .ref 4, .ref 5, .ref 6, .ref 7, .ref 8, .ref 9, .int 0]), .inr (0, 240, .inl (fun _ => 0)), .inr (0, 6, .inl A3_0), .inr (0, 6, .inl A4_0), .inr (0, 6, .inl (fun _ => 0)), .inr (0, 6, .inl (fun _ => 0)), .inr (1, 6, .inr (.inl (fun _ => 0))), .inr (1, 6, .inr (.inl (fun _ => 0))), .inl (2, [.ref 2, .int 0, .int 45, .int 0]), .inl (1, [.ref 2, .ref 12]), .inr (0, 8, .inl ro_w)])) rfl ?_
  refine a_aload_n (i := 0) q71_45 rfl rfl ?_
  refine a_new (a := 4) (kn := 13) q71_46 rfl (by decide) rfl ⟨rfl, rfl⟩ ?_
  refine a_dup q71_49 rfl ?_
  refine a_aload_n (i := 0) q71_50 rfl rfl ?_
  refine a_getfield q71_51 rfl rfl ?_
  refine a_aload_n (i := 0) q71_54 rfl rfl ?_
  refine a_getfield q71_55 rfl rfl ?_
  refine a_callI (as := [_, _]) q71_58 rfl rfl ⟨rfl, rfl⟩ (Or.inr ⟨rfl, rfl, rfl⟩) (c_X6_init (ck_v ?_))
  refine a_putfield q71_61 rfl rfl rfl rfl ?_
  refine AW.hp (h' := (nt pn [.inl (7, [.ref 2, .ref 10, .ref 11, .ref 13, .null, .null, .int 0, .int 0]), .inl (5, [.ref 3, .ref 4, .ref 5, .ref 6, .ref 7, .ref 8, .ref 9, .int 0]), .inr (0, 240, .inl (fun _ => 0)), .inr (0, 6, .inl A3_0), .inr (0, 6, .inl A4_0), .inr (0, 6, .inl (fun _ => 0)), .inr (0, 6, .inl (fun _ => 0)), .inr (1, 6, .inr (.inl (fun _ => 0))), .inr (1, 6, .inr (.inl (fun _ => 0))), .inl (2, [.ref 2, .int 0, .int 45, .int 0]), .inl (1, [.ref 2, .ref 12]), .inr (0, 8, .inl ro_w), .inl (4, [.ref 10, .ref 11, .ref 14, .int 1]), .inl (0, [.ref 15, .int 0]), .inr (1, 5, .inr (.inl (fun _ => 0)))])) rfl ?_
  refine a_aload_n (i := 0) q71_64 rfl rfl ?_
  refine a_new (a := 6) (kn := 16) q71_65 rfl (by decide) rfl ⟨rfl, rfl⟩ ?_
  refine a_dup q71_68 rfl ?_
  refine a_aload_n (i := 0) q71_69 rfl rfl ?_
  refine a_getfield q71_70 rfl rfl ?_
  refine a_aload_n (i := 0) q71_73 rfl rfl ?_
  refine a_getfield q71_74 rfl rfl ?_
  refine a_callI (as := [_, _]) q71_77 rfl rfl ⟨rfl, rfl⟩ (Or.inr ⟨rfl, rfl, rfl⟩) (c_X8_init (ck_v ?_))
  refine a_putfield q71_80 rfl rfl rfl rfl ?_
  refine AW.hp (h' := (nt pn [.inl (7, [.ref 2, .ref 10, .ref 11, .ref 13, .ref 16, .null, .int 0, .int 0]), .inl (5, [.ref 3, .ref 4, .ref 5, .ref 6, .ref 7, .ref 8, .ref 9, .int 0]), .inr (0, 240, .inl (fun _ => 0)), .inr (0, 6, .inl A3_0), .inr (0, 6, .inl A4_0), .inr (0, 6, .inl (fun _ => 0)), .inr (0, 6, .inl (fun _ => 0)), .inr (1, 6, .inr (.inl (fun _ => 0))), .inr (1, 6, .inr (.inl (fun _ => 0))), .inl (2, [.ref 2, .int 0, .int 45, .int 0]), .inl (1, [.ref 2, .ref 12]), .inr (0, 8, .inl ro_w), .inl (4, [.ref 10, .ref 11, .ref 14, .int 1]), .inl (0, [.ref 15, .int 0]), .inr (1, 5, .inr (.inl (fun _ => 0))), .inl (6, [.ref 10, .ref 11, .ref 17, .ref 19, .int 0, .int 0]), .inl (0, [.ref 18, .int 0]), .inr (1, 5, .inr (.inl (fun _ => 0))), .inr (0, 1045, .inl PLC)])) rfl ?_
  refine a_aload_n (i := 0) q71_83 rfl rfl ?_
  refine a_new (a := 3) (kn := 20) q71_84 rfl (by decide) rfl ⟨rfl, rfl⟩ ?_
  refine a_dup q71_87 rfl ?_
  refine a_callI (as := []) q71_88 rfl rfl ⟨rfl, rfl⟩ (Or.inr ⟨rfl, rfl, rfl⟩) (c_X4_init (ck_v ?_))
  refine a_putfield q71_91 rfl rfl rfl rfl ?_
  refine AW.hp (h' := (nt pn [.inl (7, [.ref 2, .ref 10, .ref 11, .ref 13, .ref 16, .ref 20, .int 0, .int 0]), .inl (5, [.ref 3, .ref 4, .ref 5, .ref 6, .ref 7, .ref 8, .ref 9, .int 0]), .inr (0, 240, .inl (fun _ => 0)), .inr (0, 6, .inl A3_0), .inr (0, 6, .inl A4_0), .inr (0, 6, .inl (fun _ => 0)), .inr (0, 6, .inl (fun _ => 0)), .inr (1, 6, .inr (.inl (fun _ => 0))), .inr (1, 6, .inr (.inl (fun _ => 0))), .inl (2, [.ref 2, .int 0, .int 45, .int 0]), .inl (1, [.ref 2, .ref 12]), .inr (0, 8, .inl ro_w), .inl (4, [.ref 10, .ref 11, .ref 14, .int 1]), .inl (0, [.ref 15, .int 0]), .inr (1, 5, .inr (.inl (fun _ => 0))), .inl (6, [.ref 10, .ref 11, .ref 17, .ref 19, .int 0, .int 0]), .inl (0, [.ref 18, .int 0]), .inr (1, 5, .inr (.inl (fun _ => 0))), .inr (0, 1045, .inl PLC), .inl (3, [.ref 21, .int 0, .int (-1)]), .inr (0, 4, .inl (fun _ => 0))])) rfl ?_
  refine a_aload_n (i := 0) q71_94 rfl rfl ?_
  refine a_iconst (v := 3) q71_95 (by decide) ?_
  refine a_putfield q71_96 rfl rfl rfl rfl ?_
  refine AW.hp (h' := (nt pn [.inl (7, [.ref 2, .ref 10, .ref 11, .ref 13, .ref 16, .ref 20, .int 3, .int 0]), .inl (5, [.ref 3, .ref 4, .ref 5, .ref 6, .ref 7, .ref 8, .ref 9, .int 0]), .inr (0, 240, .inl (fun _ => 0)), .inr (0, 6, .inl A3_0), .inr (0, 6, .inl A4_0), .inr (0, 6, .inl (fun _ => 0)), .inr (0, 6, .inl (fun _ => 0)), .inr (1, 6, .inr (.inl (fun _ => 0))), .inr (1, 6, .inr (.inl (fun _ => 0))), .inl (2, [.ref 2, .int 0, .int 45, .int 0]), .inl (1, [.ref 2, .ref 12]), .inr (0, 8, .inl ro_w), .inl (4, [.ref 10, .ref 11, .ref 14, .int 1]), .inl (0, [.ref 15, .int 0]), .inr (1, 5, .inr (.inl (fun _ => 0))), .inl (6, [.ref 10, .ref 11, .ref 17, .ref 19, .int 0, .int 0]), .inl (0, [.ref 18, .int 0]), .inr (1, 5, .inr (.inl (fun _ => 0))), .inr (0, 1045, .inl PLC), .inl (3, [.ref 21, .int 0, .int (-1)]), .inr (0, 4, .inl (fun _ => 0))])) rfl ?_
  refine a_aload_n (i := 0) q71_99 rfl rfl ?_
  refine a_bipush (v := 98) q71_100 (by decide) ?_
  refine a_iconst (v := 0) q71_102 (by decide) ?_
  refine a_cs2 q71_103 rfl ⟨rfl, rfl⟩ rfl ?_
  refine c_X1_bare ?_
  refine ck_r ?_
  refine a_putfield q71_106 rfl rfl rfl rfl ?_
  refine AW.hp (h' := (nt pn [.inl (7, [.ref 2, .ref 10, .ref 11, .ref 13, .ref 16, .ref 20, .int 3, .int (g_bare 98 0)]), .inl (5, [.ref 3, .ref 4, .ref 5, .ref 6, .ref 7, .ref 8, .ref 9, .int 0]), .inr (0, 240, .inl (fun _ => 0)), .inr (0, 6, .inl A3_0), .inr (0, 6, .inl A4_0), .inr (0, 6, .inl (fun _ => 0)), .inr (0, 6, .inl (fun _ => 0)), .inr (1, 6, .inr (.inl (fun _ => 0))), .inr (1, 6, .inr (.inl (fun _ => 0))), .inl (2, [.ref 2, .int 0, .int 45, .int 0]), .inl (1, [.ref 2, .ref 12]), .inr (0, 8, .inl ro_w), .inl (4, [.ref 10, .ref 11, .ref 14, .int 1]), .inl (0, [.ref 15, .int 0]), .inr (1, 5, .inr (.inl (fun _ => 0))), .inl (6, [.ref 10, .ref 11, .ref 17, .ref 19, .int 0, .int 0]), .inl (0, [.ref 18, .int 0]), .inr (1, 5, .inr (.inl (fun _ => 0))), .inr (0, 1045, .inl PLC), .inl (3, [.ref 21, .int 0, .int (-1)]), .inr (0, 4, .inl (fun _ => 0))])) rfl ?_
  refine a_return q71_109 rfl ?_
  exact hq
