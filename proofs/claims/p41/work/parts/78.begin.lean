/-! the law's beginning -/
def N0 : Nat → Int32 := (upd (upd (upd (upd (upd (upd (upd (upd (upd (upd (upd (upd (upd (upd (fun _ => 0) 20 3) 21 4) 22 2) 23 5) 24 3) 25 2) 26 6) 27 1) 1 45) 2 3) 62 (-1)) 63 (-1)) 64 (-1)) 65 (-1))
theorem c_L_begun {X : XS} {Q : AO → AH → Prop}  (hq : Q (.inl (some (.ref 0))) [.inr (0, 400, .inl N0)]) : Call X 130 [] [] Q := by
  refine call_of (by decide) rfl rfl ?_
  refine a_sipush (v := 400) q130_0 (by decide) ?_
  refine a_newarray (a := 0) (kn := 0) (N := 400) q130_3 (by decide) (nI_clamp (n := 400) (by decide)) (by decide) rfl (by decide) rfl ⟨rfl, rfl⟩ ?_
  refine AW.hp (h' := [.inr (0, 400, .inl (fun _ => 0))]) rfl ?_
  refine a_astore_n (i := 0) (lv' := [(0, _)]) q130_5 rfl rfl rfl ?_
  refine a_bipush (v := 8) q130_6 (by decide) ?_
  refine a_newarray (a := 0) (kn := 1) (N := 8) q130_8 (by decide) rfl (by decide) rfl (by decide) rfl ⟨rfl, rfl⟩ ?_
  refine AW.hp (h' := [.inr (0, 400, .inl (fun _ => 0)), .inr (0, 8, .inl (fun _ => 0))]) rfl ?_
  refine a_dup q130_10 rfl ?_
  refine a_iconst (v := 0) q130_11 (by decide) ?_
  refine a_iconst (v := 3) q130_12 (by decide) ?_
  refine a_iast' q130_13 rfl (j := 0) rfl (by decide) (by decide) (h' := [.inr (0, 400, .inl (fun _ => 0)), .inr (0, 8, .inl (upd (fun _ => 0) 0 3))]) rfl ?_
  refine a_dup q130_14 rfl ?_
  refine a_iconst (v := 1) q130_15 (by decide) ?_
  refine a_iconst (v := 4) q130_16 (by decide) ?_
  refine a_iast' q130_17 rfl (j := 1) rfl (by decide) (by decide) (h' := [.inr (0, 400, .inl (fun _ => 0)), .inr (0, 8, .inl (upd (upd (fun _ => 0) 0 3) 1 4))]) rfl ?_
  refine a_dup q130_18 rfl ?_
  refine a_iconst (v := 2) q130_19 (by decide) ?_
  refine a_iconst (v := 2) q130_20 (by decide) ?_
  refine a_iast' q130_21 rfl (j := 2) rfl (by decide) (by decide) (h' := [.inr (0, 400, .inl (fun _ => 0)), .inr (0, 8, .inl (upd (upd (upd (fun _ => 0) 0 3) 1 4) 2 2))]) rfl ?_
  refine a_dup q130_22 rfl ?_
  refine a_iconst (v := 3) q130_23 (by decide) ?_
  refine a_iconst (v := 5) q130_24 (by decide) ?_
  refine a_iast' q130_25 rfl (j := 3) rfl (by decide) (by decide) (h' := [.inr (0, 400, .inl (fun _ => 0)), .inr (0, 8, .inl (upd (upd (upd (upd (fun _ => 0) 0 3) 1 4) 2 2) 3 5))]) rfl ?_
  refine a_dup q130_26 rfl ?_
  refine a_iconst (v := 4) q130_27 (by decide) ?_
  refine a_iconst (v := 3) q130_28 (by decide) ?_
  refine a_iast' q130_29 rfl (j := 4) rfl (by decide) (by decide) (h' := [.inr (0, 400, .inl (fun _ => 0)), .inr (0, 8, .inl (upd (upd (upd (upd (upd (fun _ => 0) 0 3) 1 4) 2 2) 3 5) 4 3))]) rfl ?_
  refine a_dup q130_30 rfl ?_
  refine a_iconst (v := 5) q130_31 (by decide) ?_
  refine a_iconst (v := 2) q130_32 (by decide) ?_
  refine a_iast' q130_33 rfl (j := 5) rfl (by decide) (by decide) (h' := [.inr (0, 400, .inl (fun _ => 0)), .inr (0, 8, .inl (upd (upd (upd (upd (upd (upd (fun _ => 0) 0 3) 1 4) 2 2) 3 5) 4 3) 5 2))]) rfl ?_
  refine a_dup q130_34 rfl ?_
  refine a_bipush (v := 6) q130_35 (by decide) ?_
  refine a_bipush (v := 6) q130_37 (by decide) ?_
  refine a_iast' q130_39 rfl (j := 6) rfl (by decide) (by decide) (h' := [.inr (0, 400, .inl (fun _ => 0)), .inr (0, 8, .inl (upd (upd (upd (upd (upd (upd (upd (fun _ => 0) 0 3) 1 4) 2 2) 3 5) 4 3) 5 2) 6 6))]) rfl ?_
  refine a_dup q130_40 rfl ?_
  refine a_bipush (v := 7) q130_41 (by decide) ?_
  refine a_iconst (v := 1) q130_43 (by decide) ?_
  refine a_iast' q130_44 rfl (j := 7) rfl (by decide) (by decide) (h' := [.inr (0, 400, .inl (fun _ => 0)), .inr (0, 8, .inl (upd (upd (upd (upd (upd (upd (upd (upd (fun _ => 0) 0 3) 1 4) 2 2) 3 5) 4 3) 5 2) 6 6) 7 1))]) rfl ?_
  refine a_astore_n (i := 1) (lv' := [(0, _), (1, _)]) q130_45 rfl rfl rfl ?_
  refine a_iconst (v := 0) q130_46 (by decide) ?_
  refine a_istore_n (i := 2) (lv' := [(0, _), (1, _), (2, _)]) q130_47 rfl rfl rfl ?_
  refine a_iload_n (i := 2) q130_48 rfl rfl ?_
  refine a_bipush (v := 8) q130_49 (by decide) ?_
  refine a_icmp_ge (tgt := 69) q130_51 (by decide) (fun zc51 => absurd zc51 (by decide)) (fun zc51 => ?_)
  refine a_aload_n (i := 0) q130_54 rfl rfl ?_
  refine a_bipush (v := 20) q130_55 (by decide) ?_
  refine a_iload_n (i := 2) q130_57 rfl rfl ?_
  refine a_iadd q130_58 ?_
  refine a_aload_n (i := 1) q130_59 rfl rfl ?_
  refine a_iload_n (i := 2) q130_60 rfl rfl ?_
  refine a_iald' q130_61 rfl (j := 0) (by decide) (by decide) (by decide) ?_
  refine AW.ti (show _ = 3 from rfl) ?_
  refine a_iast' q130_62 rfl (j := 20) (by decide) (by decide) (by decide) (h' := [.inr (0, 400, .inl (upd (fun _ => 0) 20 3)), .inr (0, 8, .inl (upd (upd (upd (upd (upd (upd (upd (upd (fun _ => 0) 0 3) 1 4) 2 2) 3 5) 4 3) 5 2) 6 6) 7 1))]) rfl ?_
  refine a_iinc (v := nI (0 + 1)) (lv' := [(0, _), (1, _), (2, _)]) q130_63 rfl rfl (nI_1 (0)) rfl ?_
  refine a_goto (tgt := 48) q130_66 (by decide) ?_
  refine a_iload_n (i := 2) q130_48 rfl rfl ?_
  refine a_bipush (v := 8) q130_49 (by decide) ?_
  refine a_icmp_ge (tgt := 69) q130_51 (by decide) (fun zc51_1 => absurd zc51_1 (by decide)) (fun zc51_1 => ?_)
  refine a_aload_n (i := 0) q130_54 rfl rfl ?_
  refine a_bipush (v := 20) q130_55 (by decide) ?_
  refine a_iload_n (i := 2) q130_57 rfl rfl ?_
  refine a_iadd q130_58 ?_
  refine a_aload_n (i := 1) q130_59 rfl rfl ?_
  refine a_iload_n (i := 2) q130_60 rfl rfl ?_
  refine a_iald' q130_61 rfl (j := 1) (by decide) (by decide) (by decide) ?_
  refine AW.ti (show _ = 4 from rfl) ?_
  refine a_iast' q130_62 rfl (j := 21) (by decide) (by decide) (by decide) (h' := [.inr (0, 400, .inl (upd (upd (fun _ => 0) 20 3) 21 4)), .inr (0, 8, .inl (upd (upd (upd (upd (upd (upd (upd (upd (fun _ => 0) 0 3) 1 4) 2 2) 3 5) 4 3) 5 2) 6 6) 7 1))]) rfl ?_
  refine a_iinc (v := nI (1 + 1)) (lv' := [(0, _), (1, _), (2, _)]) q130_63 rfl rfl (nI_1 (1)) rfl ?_
  refine a_goto (tgt := 48) q130_66 (by decide) ?_
  refine a_iload_n (i := 2) q130_48 rfl rfl ?_
  refine a_bipush (v := 8) q130_49 (by decide) ?_
  refine a_icmp_ge (tgt := 69) q130_51 (by decide) (fun zc51_2 => absurd zc51_2 (by decide)) (fun zc51_2 => ?_)
  refine a_aload_n (i := 0) q130_54 rfl rfl ?_
  refine a_bipush (v := 20) q130_55 (by decide) ?_
  refine a_iload_n (i := 2) q130_57 rfl rfl ?_
  refine a_iadd q130_58 ?_
  refine a_aload_n (i := 1) q130_59 rfl rfl ?_
  refine a_iload_n (i := 2) q130_60 rfl rfl ?_
  refine a_iald' q130_61 rfl (j := 2) (by decide) (by decide) (by decide) ?_
  refine AW.ti (show _ = 2 from rfl) ?_
  refine a_iast' q130_62 rfl (j := 22) (by decide) (by decide) (by decide) (h' := [.inr (0, 400, .inl (upd (upd (upd (fun _ => 0) 20 3) 21 4) 22 2)), .inr (0, 8, .inl (upd (upd (upd (upd (upd (upd (upd (upd (fun _ => 0) 0 3) 1 4) 2 2) 3 5) 4 3) 5 2) 6 6) 7 1))]) rfl ?_
  refine a_iinc (v := nI (2 + 1)) (lv' := [(0, _), (1, _), (2, _)]) q130_63 rfl rfl (nI_1 (2)) rfl ?_
  refine a_goto (tgt := 48) q130_66 (by decide) ?_
  refine a_iload_n (i := 2) q130_48 rfl rfl ?_
  refine a_bipush (v := 8) q130_49 (by decide) ?_
  refine a_icmp_ge (tgt := 69) q130_51 (by decide) (fun zc51_3 => absurd zc51_3 (by decide)) (fun zc51_3 => ?_)
  refine a_aload_n (i := 0) q130_54 rfl rfl ?_
  refine a_bipush (v := 20) q130_55 (by decide) ?_
  refine a_iload_n (i := 2) q130_57 rfl rfl ?_
  refine a_iadd q130_58 ?_
  refine a_aload_n (i := 1) q130_59 rfl rfl ?_
  refine a_iload_n (i := 2) q130_60 rfl rfl ?_
  refine a_iald' q130_61 rfl (j := 3) (by decide) (by decide) (by decide) ?_
  refine AW.ti (show _ = 5 from rfl) ?_
  refine a_iast' q130_62 rfl (j := 23) (by decide) (by decide) (by decide) (h' := [.inr (0, 400, .inl (upd (upd (upd (upd (fun _ => 0) 20 3) 21 4) 22 2) 23 5)), .inr (0, 8, .inl (upd (upd (upd (upd (upd (upd (upd (upd (fun _ => 0) 0 3) 1 4) 2 2) 3 5) 4 3) 5 2) 6 6) 7 1))]) rfl ?_
  refine a_iinc (v := nI (3 + 1)) (lv' := [(0, _), (1, _), (2, _)]) q130_63 rfl rfl (nI_1 (3)) rfl ?_
  refine a_goto (tgt := 48) q130_66 (by decide) ?_
  refine a_iload_n (i := 2) q130_48 rfl rfl ?_
  refine a_bipush (v := 8) q130_49 (by decide) ?_
  refine a_icmp_ge (tgt := 69) q130_51 (by decide) (fun zc51_4 => absurd zc51_4 (by decide)) (fun zc51_4 => ?_)
  refine a_aload_n (i := 0) q130_54 rfl rfl ?_
  refine a_bipush (v := 20) q130_55 (by decide) ?_
  refine a_iload_n (i := 2) q130_57 rfl rfl ?_
  refine a_iadd q130_58 ?_
  refine a_aload_n (i := 1) q130_59 rfl rfl ?_
  refine a_iload_n (i := 2) q130_60 rfl rfl ?_
  refine a_iald' q130_61 rfl (j := 4) (by decide) (by decide) (by decide) ?_
  refine AW.ti (show _ = 3 from rfl) ?_
  refine a_iast' q130_62 rfl (j := 24) (by decide) (by decide) (by decide) (h' := [.inr (0, 400, .inl (upd (upd (upd (upd (upd (fun _ => 0) 20 3) 21 4) 22 2) 23 5) 24 3)), .inr (0, 8, .inl (upd (upd (upd (upd (upd (upd (upd (upd (fun _ => 0) 0 3) 1 4) 2 2) 3 5) 4 3) 5 2) 6 6) 7 1))]) rfl ?_
  refine a_iinc (v := nI (4 + 1)) (lv' := [(0, _), (1, _), (2, _)]) q130_63 rfl rfl (nI_1 (4)) rfl ?_
  refine a_goto (tgt := 48) q130_66 (by decide) ?_
  refine a_iload_n (i := 2) q130_48 rfl rfl ?_
  refine a_bipush (v := 8) q130_49 (by decide) ?_
  refine a_icmp_ge (tgt := 69) q130_51 (by decide) (fun zc51_5 => absurd zc51_5 (by decide)) (fun zc51_5 => ?_)
  refine a_aload_n (i := 0) q130_54 rfl rfl ?_
  refine a_bipush (v := 20) q130_55 (by decide) ?_
  refine a_iload_n (i := 2) q130_57 rfl rfl ?_
  refine a_iadd q130_58 ?_
  refine a_aload_n (i := 1) q130_59 rfl rfl ?_
  refine a_iload_n (i := 2) q130_60 rfl rfl ?_
  refine a_iald' q130_61 rfl (j := 5) (by decide) (by decide) (by decide) ?_
  refine AW.ti (show _ = 2 from rfl) ?_
  refine a_iast' q130_62 rfl (j := 25) (by decide) (by decide) (by decide) (h' := [.inr (0, 400, .inl (upd (upd (upd (upd (upd (upd (fun _ => 0) 20 3) 21 4) 22 2) 23 5) 24 3) 25 2)), .inr (0, 8, .inl (upd (upd (upd (upd (upd (upd (upd (upd (fun _ => 0) 0 3) 1 4) 2 2) 3 5) 4 3) 5 2) 6 6) 7 1))]) rfl ?_
  refine a_iinc (v := nI (5 + 1)) (lv' := [(0, _), (1, _), (2, _)]) q130_63 rfl rfl (nI_1 (5)) rfl ?_
  refine a_goto (tgt := 48) q130_66 (by decide) ?_
  refine a_iload_n (i := 2) q130_48 rfl rfl ?_
  refine a_bipush (v := 8) q130_49 (by decide) ?_
  refine a_icmp_ge (tgt := 69) q130_51 (by decide) (fun zc51_6 => absurd zc51_6 (by decide)) (fun zc51_6 => ?_)
  refine a_aload_n (i := 0) q130_54 rfl rfl ?_
  refine a_bipush (v := 20) q130_55 (by decide) ?_
  refine a_iload_n (i := 2) q130_57 rfl rfl ?_
  refine a_iadd q130_58 ?_
  refine a_aload_n (i := 1) q130_59 rfl rfl ?_
  refine a_iload_n (i := 2) q130_60 rfl rfl ?_
  refine a_iald' q130_61 rfl (j := 6) (by decide) (by decide) (by decide) ?_
  refine AW.ti (show _ = 6 from rfl) ?_
  refine a_iast' q130_62 rfl (j := 26) (by decide) (by decide) (by decide) (h' := [.inr (0, 400, .inl (upd (upd (upd (upd (upd (upd (upd (fun _ => 0) 20 3) 21 4) 22 2) 23 5) 24 3) 25 2) 26 6)), .inr (0, 8, .inl (upd (upd (upd (upd (upd (upd (upd (upd (fun _ => 0) 0 3) 1 4) 2 2) 3 5) 4 3) 5 2) 6 6) 7 1))]) rfl ?_
  refine a_iinc (v := nI (6 + 1)) (lv' := [(0, _), (1, _), (2, _)]) q130_63 rfl rfl (nI_1 (6)) rfl ?_
  refine a_goto (tgt := 48) q130_66 (by decide) ?_
  refine a_iload_n (i := 2) q130_48 rfl rfl ?_
  refine a_bipush (v := 8) q130_49 (by decide) ?_
  refine a_icmp_ge (tgt := 69) q130_51 (by decide) (fun zc51_7 => absurd zc51_7 (by decide)) (fun zc51_7 => ?_)
  refine a_aload_n (i := 0) q130_54 rfl rfl ?_
  refine a_bipush (v := 20) q130_55 (by decide) ?_
  refine a_iload_n (i := 2) q130_57 rfl rfl ?_
  refine a_iadd q130_58 ?_
  refine a_aload_n (i := 1) q130_59 rfl rfl ?_
  refine a_iload_n (i := 2) q130_60 rfl rfl ?_
  refine a_iald' q130_61 rfl (j := 7) (by decide) (by decide) (by decide) ?_
  refine AW.ti (show _ = 1 from rfl) ?_
  refine a_iast' q130_62 rfl (j := 27) (by decide) (by decide) (by decide) (h' := [.inr (0, 400, .inl (upd (upd (upd (upd (upd (upd (upd (upd (fun _ => 0) 20 3) 21 4) 22 2) 23 5) 24 3) 25 2) 26 6) 27 1)), .inr (0, 8, .inl (upd (upd (upd (upd (upd (upd (upd (upd (fun _ => 0) 0 3) 1 4) 2 2) 3 5) 4 3) 5 2) 6 6) 7 1))]) rfl ?_
  refine a_iinc (v := nI (7 + 1)) (lv' := [(0, _), (1, _), (2, _)]) q130_63 rfl rfl (nI_1 (7)) rfl ?_
  refine a_goto (tgt := 48) q130_66 (by decide) ?_
  refine a_iload_n (i := 2) q130_48 rfl rfl ?_
  refine a_bipush (v := 8) q130_49 (by decide) ?_
  refine a_icmp_ge (tgt := 69) q130_51 (by decide) (fun zc51_8 => ?_) (fun zc51_8 => absurd (by decide) zc51_8)
  refine a_aload_n (i := 0) q130_69 rfl rfl ?_
  refine a_iconst (v := 1) q130_70 (by decide) ?_
  refine a_bipush (v := 45) q130_71 (by decide) ?_
  refine a_iast' q130_73 rfl (j := 1) rfl (by decide) (by decide) (h' := [.inr (0, 400, .inl (upd (upd (upd (upd (upd (upd (upd (upd (upd (fun _ => 0) 20 3) 21 4) 22 2) 23 5) 24 3) 25 2) 26 6) 27 1) 1 45)), .inr (0, 8, .inl (upd (upd (upd (upd (upd (upd (upd (upd (fun _ => 0) 0 3) 1 4) 2 2) 3 5) 4 3) 5 2) 6 6) 7 1))]) rfl ?_
  refine a_aload_n (i := 0) q130_74 rfl rfl ?_
  refine a_iconst (v := 2) q130_75 (by decide) ?_
  refine a_iconst (v := 3) q130_76 (by decide) ?_
  refine a_iast' q130_77 rfl (j := 2) rfl (by decide) (by decide) (h' := [.inr (0, 400, .inl (upd (upd (upd (upd (upd (upd (upd (upd (upd (upd (fun _ => 0) 20 3) 21 4) 22 2) 23 5) 24 3) 25 2) 26 6) 27 1) 1 45) 2 3)), .inr (0, 8, .inl (upd (upd (upd (upd (upd (upd (upd (upd (fun _ => 0) 0 3) 1 4) 2 2) 3 5) 4 3) 5 2) 6 6) 7 1))]) rfl ?_
  refine a_iconst (v := 0) q130_78 (by decide) ?_
  refine a_istore_n (i := 2) (lv' := [(0, _), (1, _), (2, _)]) q130_79 rfl rfl rfl ?_
  refine a_iload_n (i := 2) q130_80 rfl rfl ?_
  refine a_iconst (v := 4) q130_81 (by decide) ?_
  refine a_icmp_ge (tgt := 98) q130_82 (by decide) (fun zc82 => absurd zc82 (by decide)) (fun zc82 => ?_)
  refine a_aload_n (i := 0) q130_85 rfl rfl ?_
  refine a_bipush (v := 62) q130_86 (by decide) ?_
  refine a_iload_n (i := 2) q130_88 rfl rfl ?_
  refine a_iadd q130_89 ?_
  refine a_iconst (v := (-1)) q130_90 (by decide) ?_
  refine a_iast' q130_91 rfl (j := 62) (by decide) (by decide) (by decide) (h' := [.inr (0, 400, .inl (upd (upd (upd (upd (upd (upd (upd (upd (upd (upd (upd (fun _ => 0) 20 3) 21 4) 22 2) 23 5) 24 3) 25 2) 26 6) 27 1) 1 45) 2 3) 62 (-1))), .inr (0, 8, .inl (upd (upd (upd (upd (upd (upd (upd (upd (fun _ => 0) 0 3) 1 4) 2 2) 3 5) 4 3) 5 2) 6 6) 7 1))]) rfl ?_
  refine a_iinc (v := nI (0 + 1)) (lv' := [(0, _), (1, _), (2, _)]) q130_92 rfl rfl (nI_1 (0)) rfl ?_
  refine a_goto (tgt := 80) q130_95 (by decide) ?_
  refine a_iload_n (i := 2) q130_80 rfl rfl ?_
  refine a_iconst (v := 4) q130_81 (by decide) ?_
  refine a_icmp_ge (tgt := 98) q130_82 (by decide) (fun zc82_1 => absurd zc82_1 (by decide)) (fun zc82_1 => ?_)
  refine a_aload_n (i := 0) q130_85 rfl rfl ?_
  refine a_bipush (v := 62) q130_86 (by decide) ?_
  refine a_iload_n (i := 2) q130_88 rfl rfl ?_
  refine a_iadd q130_89 ?_
  refine a_iconst (v := (-1)) q130_90 (by decide) ?_
  refine a_iast' q130_91 rfl (j := 63) (by decide) (by decide) (by decide) (h' := [.inr (0, 400, .inl (upd (upd (upd (upd (upd (upd (upd (upd (upd (upd (upd (upd (fun _ => 0) 20 3) 21 4) 22 2) 23 5) 24 3) 25 2) 26 6) 27 1) 1 45) 2 3) 62 (-1)) 63 (-1))), .inr (0, 8, .inl (upd (upd (upd (upd (upd (upd (upd (upd (fun _ => 0) 0 3) 1 4) 2 2) 3 5) 4 3) 5 2) 6 6) 7 1))]) rfl ?_
  refine a_iinc (v := nI (1 + 1)) (lv' := [(0, _), (1, _), (2, _)]) q130_92 rfl rfl (nI_1 (1)) rfl ?_
  refine a_goto (tgt := 80) q130_95 (by decide) ?_
  refine a_iload_n (i := 2) q130_80 rfl rfl ?_
  refine a_iconst (v := 4) q130_81 (by decide) ?_
  refine a_icmp_ge (tgt := 98) q130_82 (by decide) (fun zc82_2 => absurd zc82_2 (by decide)) (fun zc82_2 => ?_)
  refine a_aload_n (i := 0) q130_85 rfl rfl ?_
  refine a_bipush (v := 62) q130_86 (by decide) ?_
  refine a_iload_n (i := 2) q130_88 rfl rfl ?_
  refine a_iadd q130_89 ?_
  refine a_iconst (v := (-1)) q130_90 (by decide) ?_
  refine a_iast' q130_91 rfl (j := 64) (by decide) (by decide) (by decide) (h' := [.inr (0, 400, .inl (upd (upd (upd (upd (upd (upd (upd (upd (upd (upd (upd (upd (upd (fun _ => 0) 20 3) 21 4) 22 2) 23 5) 24 3) 25 2) 26 6) 27 1) 1 45) 2 3) 62 (-1)) 63 (-1)) 64 (-1))), .inr (0, 8, .inl (upd (upd (upd (upd (upd (upd (upd (upd (fun _ => 0) 0 3) 1 4) 2 2) 3 5) 4 3) 5 2) 6 6) 7 1))]) rfl ?_
  refine a_iinc (v := nI (2 + 1)) (lv' := [(0, _), (1, _), (2, _)]) q130_92 rfl rfl (nI_1 (2)) rfl ?_
  refine a_goto (tgt := 80) q130_95 (by decide) ?_
  refine a_iload_n (i := 2) q130_80 rfl rfl ?_
  refine a_iconst (v := 4) q130_81 (by decide) ?_
  refine a_icmp_ge (tgt := 98) q130_82 (by decide) (fun zc82_3 => absurd zc82_3 (by decide)) (fun zc82_3 => ?_)
  refine a_aload_n (i := 0) q130_85 rfl rfl ?_
  refine a_bipush (v := 62) q130_86 (by decide) ?_
  refine a_iload_n (i := 2) q130_88 rfl rfl ?_
  refine a_iadd q130_89 ?_
  refine a_iconst (v := (-1)) q130_90 (by decide) ?_
  refine a_iast' q130_91 rfl (j := 65) (by decide) (by decide) (by decide) (h' := [.inr (0, 400, .inl (upd (upd (upd (upd (upd (upd (upd (upd (upd (upd (upd (upd (upd (upd (fun _ => 0) 20 3) 21 4) 22 2) 23 5) 24 3) 25 2) 26 6) 27 1) 1 45) 2 3) 62 (-1)) 63 (-1)) 64 (-1)) 65 (-1))), .inr (0, 8, .inl (upd (upd (upd (upd (upd (upd (upd (upd (fun _ => 0) 0 3) 1 4) 2 2) 3 5) 4 3) 5 2) 6 6) 7 1))]) rfl ?_
  refine a_iinc (v := nI (3 + 1)) (lv' := [(0, _), (1, _), (2, _)]) q130_92 rfl rfl (nI_1 (3)) rfl ?_
  refine a_goto (tgt := 80) q130_95 (by decide) ?_
  refine a_iload_n (i := 2) q130_80 rfl rfl ?_
  refine a_iconst (v := 4) q130_81 (by decide) ?_
  refine a_icmp_ge (tgt := 98) q130_82 (by decide) (fun zc82_4 => ?_) (fun zc82_4 => absurd (by decide) zc82_4)
  refine a_aload_n (i := 0) q130_98 rfl rfl ?_
  refine AW.hp (h' := [.inr (0, 400, .inl N0)] ++ [.inr (0, 8, .inl (upd (upd (upd (upd (upd (upd (upd (upd (fun _ => 0) 0 3) 1 4) 2 2) 3 5) 4 3) 5 2) 6 6) 7 1))]) rfl ?_
  refine AW.drop rfl ?_
  refine a_areturn q130_99 ⟨_, rfl, Or.inr ⟨_, rfl⟩⟩ ?_
  exact hq

def iI (k : Nat) : Int32 := match k with
  | 0 => 3
  | 1 => g_bare 98 0
  | 4 => 45
  | 6 => 1
  | 12 => -1
  | _ => 0
def iA (pl N : Nat → Int32) (x : Nat) : Nat → Int32 := match x with
  | 3 => A3_0
  | 4 => A4_0
  | 11 => ro_w
  | 18 => pl
  | 30 => N
  | _ => fun _ => 0
def iL (_ : Nat) : Nat → Int64 := fun _ => 0
theorem hp_new (pl N : Nat → Int32) : (nt N [.inl (7, [.ref 2, .ref 10, .ref 11, .ref 13, .ref 16, .ref 20, .int 3, .int (g_bare 98 0)]), .inl (5, [.ref 3, .ref 4, .ref 5, .ref 6, .ref 7, .ref 8, .ref 9, .int 0]), .inr (0, 240, .inl (fun _ => 0)), .inr (0, 6, .inl A3_0), .inr (0, 6, .inl A4_0), .inr (0, 6, .inl (fun _ => 0)), .inr (0, 6, .inl (fun _ => 0)), .inr (1, 6, .inr (.inl (fun _ => 0))), .inr (1, 6, .inr (.inl (fun _ => 0))), .inl (2, [.ref 2, .int 0, .int 45, .int 0]), .inl (1, [.ref 2, .ref 12]), .inr (0, 8, .inl ro_w), .inl (4, [.ref 10, .ref 11, .ref 14, .int 1]), .inl (0, [.ref 15, .int 0]), .inr (1, 5, .inr (.inl (fun _ => 0))), .inl (6, [.ref 10, .ref 11, .ref 17, .ref 19, .int 0, .int 0]), .inl (0, [.ref 18, .int 0]), .inr (1, 5, .inr (.inl (fun _ => 0))), .inr (0, 1045, .inl pl), .inl (3, [.ref 21, .int 0, .int (-1)]), .inr (0, 4, .inl (fun _ => 0))]) = hp iI (iA pl N) iL [] := rfl
theorem A30_t : ∀ c, c < 6 → A3_0 c = -1 ∧ A4_0 c = 0 := by decide
theorem wt_t : ∀ j, j < 8 → ro_w j = N0 (20 + j) ∧ 0 ≤ N0 (20 + j) ∧ N0 (20 + j) ≤ 99 := by decide
theorem n0_t : N0 0 = 0 ∧ N0 1 = 45 ∧ (∀ j, j < 6 → N0 (10 + j) = 0) ∧ (∀ j, j < 6 → N0 (30 + j) = 0) ∧ (∀ j, j < 6 → N0 (40 + j) = 0) := by decide
theorem bN_z {g : Nat → Int32} {m : Nat} (h : ∀ e, e < m → g e = 0) : bN g m = 0 := by
  refine (bN_u (g := g) (m := m) (N := 0) (Nat.two_pow_pos m) (fun e he => ?_)).symm
  rw [h e he]; simp
theorem init_rel (pl : Nat → Int32) (hp : pl = PLC) : RelL iI (iA pl N0) iL := by
  obtain ⟨z0, z1, z10, z30, z40⟩ := n0_t
  have zg : ∀ e, e < 24 → gF (iA pl N0) e = 0 := by
    intro e he
    show (N0 (40 + e / 4) >>> (nI (e % 4) &&& 31)) &&& 1 = 0
    rw [z40 (e / 4) (by omega)]
    have : ∀ k, k < 4 → ((0 : Int32) >>> (nI k &&& 31)) &&& 1 = 0 := by decide
    exact this (e % 4) (by omega)
  refine ⟨0, ⟨Nat.zero_le _, rfl, z0, fun c r _ hr => absurd hr (Nat.not_lt_zero r), fun c hc => ?_, fun c hc => ⟨rfl, rfl, rfl, rfl, ?_⟩⟩, ⟨?_, fun j hj => Or.inl (z30 j hj), z1, Or.inr rfl, ?_, fun j hj => ⟨0, by decide, z40 j hj⟩, fun j hj => wt_t j hj⟩, hp, 0, by decide, rfl, fun z => absurd z (by decide)⟩
  · show FK (A3_0 c) (N0 (10 + c))
    rw [(A30_t c hc).1, z10 c hc]; exact FK_m1
  · show A4_0 c = _
    rw [(A30_t c hc).2]; rfl
  · show (0 : Int32) = _
    have e0 : bN (fun j => iA pl N0 30 (30 + j)) 6 = 0 := bN_z (fun e he => z30 e he)
    rw [e0]; rfl
  · show (0 : Int32) = _
    have e0 : bN (gF (iA pl N0)) 24 = 0 := bN_z zg
    rw [e0]; rfl
theorem l_beg (m9 : Nat) : ∀ {X : XS} {I : Nat → Int32} {A : Nat → Nat → Int32} {L : Nat → Nat → Int64} {Q : AO → AH → Prop} {bc bs : Nat} (hX : X.1.1 ≤ 260) (hm : m9 ≤ 40) (hr : RelL I A L) (hq : ∀ I A L, RelL I A L → Q (.inl (some (.ref 1))) (hp I A L [])), AW X 148 45 [(0, .ref 1003), (1, .ref 0), (2, .ref 1), (3, .int 1), (4, .int (nI m9))] [] (hp I A L []) (5 * m9 + bc) (30 * m9 + bs) Q := by
  induction m9 with
  | zero =>
    intro X I A L Q bc bs hX hm hr hq
    refine a_iload q148_45 rfl ?_
    refine a_if_le (tgt := 72) q148_47 (by decide) (fun zc47 => ?_) (fun zc47 => absurd (by decide) zc47)
    refine a_iload_n (i := 3) q148_72 rfl rfl ?_
    refine a_if_eq (tgt := 80) q148_73 (by decide) (fun zc73 => absurd zc73 (by decide)) (fun zc73 => ?_)
    refine a_aload_n (i := 2) q148_76 rfl rfl ?_
    refine a_goto (tgt := 81) q148_77 (by decide) ?_
    refine a_areturn q148_81 ⟨_, rfl, Or.inl ⟨_, rfl⟩⟩ ?_
    exact hq _ _ _ hr
  | succ m9 ih =>
    intro X I A L Q bc bs hX hm hr hq
    refine AW.wide (bc' := 5 * m9 + bc + 5) (bs' := 30 * m9 + bs + 30) (by omega) (by omega) ?_
    refine a_iload q148_45 rfl ?_
    refine a_if_le (tgt := 72) q148_47 (by decide) (fun zc47 => absurd zc47 (nI_nle (Nat.succ_pos m9) (by omega))) (fun zc47 => ?_)
    refine a_iload_n (i := 3) q148_50 rfl rfl ?_
    refine a_aload_n (i := 2) q148_51 rfl rfl ?_
    refine a_aload_n (i := 1) q148_52 rfl rfl ?_
    refine a_aload_n (i := 0) q148_53 rfl rfl ?_
    refine a_bipush (v := 10) q148_54 (by decide) ?_
    refine a_iconst (v := 3) q148_56 (by decide) ?_
    refine a_iload q148_57 rfl ?_
    refine a_imul q148_59 ?_
    refine a_iadd q148_60 ?_
    refine AW.ti (show (10 : Int32) + 3 * nI (m9 + 1) = nI (10 + 3 * (m9 + 1)) by rw [show (3 : Int32) = nI 3 from rfl, pk_mul, show (10 : Int32) = nI 10 from rfl, nI_add]) ?_
    refine a_callS (as := [_, _, _, _]) q148_61 rfl rfl ⟨rfl, rfl⟩ (Or.inr ⟨rfl, rfl, rfl⟩) (c_L_isRow hX (show 10 + 3 * (m9 + 1) < 800000 by omega) hr (fun I A L hr => ck_r ?_))
    refine a_iand q148_64 ?_
    refine AW.ti (show (1 : Int32) &&& 1 = 1 by decide) ?_
    refine a_istore_n (i := 3) (lv' := [(0, _), (1, _), (2, _), (3, _), (4, _)]) q148_65 rfl rfl rfl ?_
    refine a_iinc (v := nI m9) (lv' := [(0, _), (1, _), (2, _), (3, _), (4, _)]) q148_66 rfl rfl (pk_m1 m9) rfl ?_
    refine a_goto (tgt := 45) q148_69 (by decide) ?_
    refine AW.wide (bc' := 5 * m9 + bc) (bs' := 30 * m9 + bs) (Nat.le_of_eq rfl) (Nat.le_of_eq rfl) ?_
    exact ih hX (by omega) hr hq

theorem c_L_begun_ {X : XS} {Q : AO → AH → Prop} (hX : X.1.1 ≤ 260) (hq : ∀ I A L, RelL I A L → Q (.inl (some (.ref 1))) (hp I A L [])) : Call X 148 [.ref 1003, .ref 0] [.inr (0, 400, .inl N0)] Q := by
  refine call_of (by decide) rfl rfl ?_
  refine a_new (a := 7) (kn := 1) q148_0 rfl (by decide) rfl ⟨rfl, rfl⟩ ?_
  refine a_dup q148_3 rfl ?_
  refine AW.hp (h' := nt N0 [.inl (7, dfl 7)]) rfl ?_
  refine a_callI (as := []) q148_4 rfl rfl ⟨rfl, rfl⟩ (Or.inr ⟨rfl, rfl, rfl⟩) (c_X9_init (ck_v ?_))
  refine AW.hp (hp_new PLC N0) ?_
  refine a_astore_n (i := 2) (lv' := [(0, _), (1, _), (2, _)]) q148_7 rfl rfl rfl ?_
  refine a_iconst (v := 1) q148_8 (by decide) ?_
  refine a_istore_n (i := 3) (lv' := [(0, _), (1, _), (2, _), (3, _)]) q148_9 rfl rfl rfl ?_
  refine a_aload_n (i := 0) q148_10 rfl rfl ?_
  refine a_iconst (v := 0) q148_11 (by decide) ?_
  refine a_iconst (v := 5) q148_12 (by decide) ?_
  refine a_cs3 q148_13 rfl ⟨rfl, rfl⟩ rfl ?_
  refine c_L_in hX (i := 0) (m := 5) (by omega) (by omega) (by omega) (fun u hu => ?_)
  refine ck_r ?_
  refine a_if_ne (tgt := 33) q148_16 (by decide) (fun zc16 => ?_) (fun zc16 => ?_)
  · skip
    refine a_iconst (v := 4) q148_33 (by decide) ?_
    refine a_aload_n (i := 0) q148_34 rfl rfl ?_
    refine a_bipush (v := 8) q148_35 (by decide) ?_
    refine a_bipush (v := 14) q148_37 (by decide) ?_
    refine a_cs3 q148_39 rfl ⟨rfl, rfl⟩ rfl ?_
    refine c_L_in hX (i := 8) (m := 14) (by omega) (by omega) (by omega) (fun j hj => ?_)
    refine ck_r ?_
    refine a_iadd q148_42 ?_
    refine AW.ti (nI_add 4 j) ?_
    refine a_istore (i := 4) (lv' := [(0, _), (1, _), (2, _), (3, _), (4, _)]) q148_43 rfl rfl ?_
    refine AW.wide (bc' := 5 * (4 + j) + 0) (bs' := 30 * (4 + j) + 0) ?_ ?_ ?_
    · show 5 * (4 + j) + 0 ≤ mC 148 - 1 - mC 71 - mC 129
      rw [show mC 148 = 221 from rfl, show mC 71 = 20 from rfl, show mC 129 = 0 from rfl]; omega
    · show 30 * (4 + j) + 0 ≤ mS 148 - (kC 7).2.2 - mS 71 - mS 129
      rw [show mS 148 = 2582 from rfl, show (kC 7).2.2 = 8 from rfl, show mS 71 = 1374 from rfl, show mS 129 = 0 from rfl]; omega
    exact l_beg (4 + j) hX (by omega) (init_rel PLC rfl) hq
  · skip
    refine a_bipush (v := 20) q148_19 (by decide) ?_
    refine a_aload_n (i := 0) q148_21 rfl rfl ?_
    refine a_bipush (v := 8) q148_22 (by decide) ?_
    refine a_bipush (v := 21) q148_24 (by decide) ?_
    refine a_cs3 q148_26 rfl ⟨rfl, rfl⟩ rfl ?_
    refine c_L_in hX (i := 8) (m := 21) (by omega) (by omega) (by omega) (fun j hj => ?_)
    refine ck_r ?_
    refine a_iadd q148_29 ?_
    refine AW.ti (nI_add 20 j) ?_
    refine a_goto (tgt := 43) q148_30 (by decide) ?_
    refine a_istore (i := 4) (lv' := [(0, _), (1, _), (2, _), (3, _), (4, _)]) q148_43 rfl rfl ?_
    refine AW.wide (bc' := 5 * (20 + j) + 0) (bs' := 30 * (20 + j) + 0) ?_ ?_ ?_
    · show 5 * (20 + j) + 0 ≤ mC 148 - 1 - mC 71 - mC 129
      rw [show mC 148 = 221 from rfl, show mC 71 = 20 from rfl, show mC 129 = 0 from rfl]; omega
    · show 30 * (20 + j) + 0 ≤ mS 148 - (kC 7).2.2 - mS 71 - mS 129
      rw [show mS 148 = 2582 from rfl, show (kC 7).2.2 = 8 from rfl, show mS 71 = 1374 from rfl, show mS 129 = 0 from rfl]; omega
    exact l_beg (20 + j) hX (by omega) (init_rel PLC rfl) hq
