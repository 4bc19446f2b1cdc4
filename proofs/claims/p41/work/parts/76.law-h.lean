/-! the law's isRow and isForbidden -/
def rowN (f : Nat → Int32) (n : Nat) (R : Nat → Int32) : Nat → Nat → Int32
  | 0 => f
  | c + 1 => upd (rowN f n R c) (100 + (6 * n + c)) (R c)
theorem rowN_at (f : Nat → Int32) (n : Nat) (R : Nat → Int32) : ∀ c x, rowN f n R c x = if 100 + 6 * n ≤ x ∧ x < 100 + 6 * n + c then R (x - (100 + 6 * n)) else f x
  | 0, x => by rw [rowN, if_neg (by omega)]
  | c + 1, x => by
    rw [rowN, upd_at, rowN_at f n R c x]
    by_cases h : x = 100 + (6 * n + c)
    · rw [if_pos h, if_pos (by omega), h]; congr 1; omega
    · rw [if_neg h]
      by_cases h2 : 100 + 6 * n ≤ x ∧ x < 100 + 6 * n + c
      · rw [if_pos h2, if_pos (by omega)]
      · rw [if_neg h2, if_neg (by omega)]
theorem l_rowA (m9 : Nat) : ∀ {X : XS} {I : Nat → Int32} {A : Nat → Nat → Int32} {L : Nat → Nat → Int64} {Q : AO → AH → Prop} {R : Nat → Int32} {bc bs : Nat} {i n c : Nat} (hX : X.1.1 ≤ 260) (hi : i < 800000) (hn : A 30 0 = nI n) (hn40 : n ≤ 40) (hm : c + m9 = 6) (hR : ∀ j, j < c → isVal (R j)) (kk : ∀ R, (∀ j, j < 6 → isVal (R j)) → AW X 133 40 [(0, .ref 1), (1, .ref 0), (2, .ref 1003), (3, .int (nI i)), (4, .ref 22)] [] (hp I A L [cc R]) bc bs Q), AW X 133 9 [(0, .ref 1), (1, .ref 0), (2, .ref 1003), (3, .int (nI i)), (4, .ref 22), (5, .int (nI c))] [] (hp I A L [cc R]) (bc) (bs) Q := by
  induction m9 with
  | zero =>
    intro X I A L Q R bc bs i n c hX hi hn hn40 hm hR kk
    refine a_iload q133_9 rfl ?_
    refine a_bipush (v := 6) q133_11 (by decide) ?_
    refine a_icmp_ge (tgt := 40) q133_13 (by decide) (fun zc13 => ?_) (fun zc13 => absurd (nI_le (show 6 ≤ c by omega) (by omega)) zc13)
    refine AW.pop_less (x := (5, _)) (lv' := [(0, _), (1, _), (2, _), (3, _), (4, _)]) ?_
    exact kk R (fun j hj => hR j (by omega))
  | succ m9 ih =>
    intro X I A L Q R bc bs i n c hX hi hn hn40 hm hR kk
    refine a_iload q133_9 rfl ?_
    refine a_bipush (v := 6) q133_11 (by decide) ?_
    refine a_icmp_ge (tgt := 40) q133_13 (by decide) (fun zc13 => absurd zc13 (nI_ge (show c < 6 by omega) (by decide))) (fun zc13 => ?_)
    refine a_aload q133_16 rfl ?_
    refine a_iload q133_18 rfl ?_
    refine a_aload_n (i := 1) q133_20 rfl rfl ?_
    refine a_aload_n (i := 2) q133_21 rfl rfl ?_
    refine a_iload_n (i := 3) q133_22 rfl rfl ?_
    refine a_iconst (v := 2) q133_23 (by decide) ?_
    refine a_iload q133_24 rfl ?_
    refine a_imul q133_26 ?_
    refine a_iadd q133_27 ?_
    refine AW.ti (show nI i + 2 * nI c = nI (i + 2 * c) by rw [show (2 : Int32) = nI 2 from rfl, pk_mul, nI_add]) ?_
    refine a_iload q133_28 rfl ?_
    refine a_cs4 q133_30 rfl ⟨rfl, rfl⟩ rfl ?_
    refine c_L_made hX hn hn40 (show i + 2 * c < 900000 by omega) (show c < 6 by omega) (fun v hv => ?_)
    refine ck_r ?_
    refine a_iast' q133_33 rfl (j := c) rfl (by omega) (by decide) (h' := (hp I A L [cc (upd R c v)])) rfl ?_
    refine a_iinc (v := nI (c + 1)) (lv' := [(0, _), (1, _), (2, _), (3, _), (4, _), (5, _)]) q133_34 rfl rfl (nI_1 (c)) rfl ?_
    refine a_goto (tgt := 9) q133_37 (by decide) ?_
    exact ih (R := upd R c v) hX hi hn hn40 (show c + 1 + m9 = 6 by omega) (fun j hj => by
        by_cases e : j = c
        · rw [e, upd_s]; exact hv
        · rw [upd_n e]; exact hR j (by omega)) kk

theorem l_rowB (m9 : Nat) : ∀ {X : XS} {I : Nat → Int32} {A : Nat → Nat → Int32} {L : Nat → Nat → Int64} {Q : AO → AH → Prop} {R : Nat → Int32} {bc bs : Nat} {i n c : Nat} (hn : A 30 0 = nI n) (hn40 : n < 40) (hm : c + m9 = 6) (kk : AW X 133 122 [(0, .ref 1), (1, .ref 0), (2, .ref 1003), (3, .int (nI i)), (4, .ref 22)] [] (hp I (va_up A 30 (rowN (A 30) n R 6)) L [cc R]) bc bs Q), AW X 133 90 [(0, .ref 1), (1, .ref 0), (2, .ref 1003), (3, .int (nI i)), (4, .ref 22), (5, .int (nI c))] [] (hp I (va_up A 30 (rowN (A 30) n R c)) L [cc R]) (bc) (bs) Q := by
  induction m9 with
  | zero =>
    intro X I A L Q R bc bs i n c hn hn40 hm kk
    refine a_iload q133_90 rfl ?_
    refine a_bipush (v := 6) q133_92 (by decide) ?_
    refine a_icmp_ge (tgt := 122) q133_94 (by decide) (fun zc94 => ?_) (fun zc94 => absurd (nI_le (show 6 ≤ c by omega) (by omega)) zc94)
    refine AW.pop_less (x := (5, _)) (lv' := [(0, _), (1, _), (2, _), (3, _), (4, _)]) ?_
    have e : c = 6 := by omega
    subst e; exact kk
  | succ m9 ih =>
    intro X I A L Q R bc bs i n c hn hn40 hm kk
    refine a_iload q133_90 rfl ?_
    refine a_bipush (v := 6) q133_92 (by decide) ?_
    refine a_icmp_ge (tgt := 122) q133_94 (by decide) (fun zc94 => absurd zc94 (nI_ge (show c < 6 by omega) (by decide))) (fun zc94 => ?_)
    refine a_aload_n (i := 1) q133_97 rfl rfl ?_
    refine a_bipush (v := 100) q133_98 (by decide) ?_
    refine a_bipush (v := 6) q133_100 (by decide) ?_
    refine a_aload_n (i := 1) q133_102 rfl rfl ?_
    refine a_iconst (v := 0) q133_103 (by decide) ?_
    refine a_iald' q133_104 rfl (j := 0) rfl (by decide) (by decide) ?_
    refine AW.ti (show rowN (A 30) n R c 0 = nI n by rw [rowN_at, if_neg (by omega)]; exact hn) ?_
    refine a_imul q133_105 ?_
    refine a_iadd q133_106 ?_
    refine a_iload q133_107 rfl ?_
    refine a_iadd q133_109 ?_
    refine a_aload q133_110 rfl ?_
    refine a_iload q133_112 rfl ?_
    refine a_iald' q133_114 rfl (j := c) rfl (by omega) (by decide) ?_
    refine a_iast' q133_115 rfl (j := 100 + (6 * n + c)) (nI_v n c) (by omega) (by decide) (h' := (hp I (va_up A 30 (rowN (A 30) n R (c + 1))) L [cc R])) rfl ?_
    refine a_iinc (v := nI (c + 1)) (lv' := [(0, _), (1, _), (2, _), (3, _), (4, _), (5, _)]) q133_116 rfl rfl (nI_1 (c)) rfl ?_
    refine a_goto (tgt := 90) q133_119 (by decide) ?_
    exact ih hn hn40 (show c + 1 + m9 = 6 by omega) kk

theorem c_L_isRow {X : XS} {I : Nat → Int32} {A : Nat → Nat → Int32} {L : Nat → Nat → Int64} {Q : AO → AH → Prop} (hX : X.1.1 ≤ 260) {i : Nat} (hi : i < 800000) (hr : RelL I A L) (hq : ∀ I' A' L', RelL I' A' L' → Q (.inl (some (.int 1))) (hp I' A' L' [])) : Call X 133 [.ref 1, .ref 0, .ref 1003, .int (nI i)] (hp I A L []) Q := by
  refine call_of (by decide) rfl rfl ?_
  obtain ⟨n, hT, hW, h18, hC⟩ := id hr
  refine a_bipush (v := 6) q133_0 (by decide) ?_
  refine a_newarray (a := 0) (kn := 22) (N := 6) q133_2 (by decide) rfl (by decide) rfl (by decide) rfl ⟨rfl, rfl⟩ ?_
  refine AW.hp (h' := (hp I A L [cc (fun _ => 0)])) rfl ?_
  refine a_astore (i := 4) (lv' := [(0, _), (1, _), (2, _), (3, _), (4, _)]) q133_4 rfl rfl ?_
  refine a_iconst (v := 0) q133_6 (by decide) ?_
  refine a_istore (i := 5) (lv' := [(0, _), (1, _), (2, _), (3, _), (4, _), (5, _)]) q133_7 rfl rfl ?_
  refine l_rowA 6 (c := 0) hX hi hT.2.2.1 hT.1 rfl (fun j hj => absurd hj (Nat.not_lt_zero j)) (fun R hR => ?_)
  refine a_aload_n (i := 1) q133_40 rfl rfl ?_
  refine a_iconst (v := 0) q133_41 (by decide) ?_
  refine a_iald' q133_42 rfl (j := 0) rfl (by decide) (by decide) ?_
  refine AW.ti hT.2.2.1 ?_
  refine a_bipush (v := 40) q133_43 (by decide) ?_
  refine a_icmp_ne (tgt := 87) q133_45 (by decide) (fun zc45 => ?_) (fun zc45 => ?_)
  · skip
    refine a_iconst (v := 0) q133_87 (by decide) ?_
    refine a_istore (i := 5) (lv' := [(0, _), (1, _), (2, _), (3, _), (4, _), (5, _)]) q133_88 rfl rfl ?_
    have hlt : n < 40 := Nat.lt_of_le_of_ne hT.1 (fun zz => zc45 (by rw [zz]; rfl))
    refine AW.hp (h' := (hp I (va_up A 30 (rowN (A 30) n R 0)) L [cc R])) (by rw [show va_up A 30 (rowN (A 30) n R 0) = A from va_self A 30]) ?_
    refine l_rowB 6 (c := 0) hT.2.2.1 hlt rfl ?_
    refine a_aload_n (i := 1) q133_122 rfl rfl ?_
    refine a_iconst (v := 0) q133_123 (by decide) ?_
    refine a_dup2 q133_124 rfl rfl ?_
    refine a_iald' q133_125 rfl (j := 0) rfl (by decide) (by decide) ?_
    refine AW.ti (show rowN (A 30) n R 6 0 = nI n by rw [rowN_at, if_neg (by omega)]; exact hT.2.2.1) ?_
    refine a_iconst (v := 1) q133_126 (by decide) ?_
    refine a_iadd q133_127 ?_
    refine AW.ti (nI_1 n) ?_
    refine a_iast' q133_128 rfl (j := 0) rfl (by decide) (by decide) (h' := hp I (va_up A 30 (upd (rowN (A 30) n R 6) 0 (nI (n + 1)))) L [cc R]) rfl ?_
    refine a_aload_n (i := 0) q133_129 rfl rfl ?_
    refine a_aload q133_130 rfl ?_
    refine a_iconst (v := 0) q133_132 (by decide) ?_
    refine a_iald' q133_133 rfl (j := 0) rfl (by decide) (by decide) ?_
    refine a_aload q133_134 rfl ?_
    refine a_iconst (v := 1) q133_136 (by decide) ?_
    refine a_iald' q133_137 rfl (j := 1) rfl (by decide) (by decide) ?_
    refine a_aload q133_138 rfl ?_
    refine a_iconst (v := 2) q133_140 (by decide) ?_
    refine a_iald' q133_141 rfl (j := 2) rfl (by decide) (by decide) ?_
    refine a_aload q133_142 rfl ?_
    refine a_iconst (v := 3) q133_144 (by decide) ?_
    refine a_iald' q133_145 rfl (j := 3) rfl (by decide) (by decide) ?_
    refine a_aload q133_146 rfl ?_
    refine a_iconst (v := 4) q133_148 (by decide) ?_
    refine a_iald' q133_149 rfl (j := 4) rfl (by decide) (by decide) ?_
    refine a_aload q133_150 rfl ?_
    refine a_iconst (v := 5) q133_152 (by decide) ?_
    refine a_iald' q133_153 rfl (j := 5) rfl (by decide) (by decide) ?_
    refine a_callSW (as := [_, _, _, _, _, _, _]) q133_154 rfl rfl ⟨rfl, rfl⟩ rfl ?_
    refine q_addRow (R := R) (N := (upd (rowN (A 30) n R 6) 0 (nI (n + 1)))) hT hW h18 hC hlt hR rfl (upd_s _ _ _) (fun x h0 h1 => by rw [upd_n (by omega), rowN_at, if_neg (by omega)]) (fun k r hk hr' => by
    rw [upd_n (by omega), rowN_at]
    by_cases e : r = n
    · rw [if_pos (by omega), if_pos e]; congr 1; omega
    · rw [if_neg (by omega), if_neg e]; rfl) (fun I' A' L' hr' e0 => ?_)
    refine ck_r ?_
    refine a_aload_n (i := 1) q133_157 rfl rfl ?_
    refine a_iconst (v := 0) q133_158 (by decide) ?_
    refine a_iald' q133_159 rfl (j := 0) rfl (by decide) (by decide) ?_
    refine AW.ti e0 ?_
    refine a_icmp_ne (tgt := 167) q133_160 (by decide) (fun zc160 => absurd zc160 (neN rfl)) (fun zc160 => ?_)
    refine a_iconst (v := 1) q133_163 (by decide) ?_
    refine a_goto (tgt := 168) q133_164 (by decide) ?_
    refine AW.hp (h' := hp _ _ _ [] ++ [cc R]) rfl ?_
    refine AW.drop rfl ?_
    refine a_ireturn q133_168 (nr_bool rfl (by decide)) ?_
    exact hq _ _ _ hr'
  · skip
    refine a_aload_n (i := 0) q133_48 rfl rfl ?_
    refine a_aload q133_49 rfl ?_
    refine a_iconst (v := 0) q133_51 (by decide) ?_
    refine a_iald' q133_52 rfl (j := 0) rfl (by decide) (by decide) ?_
    refine a_aload q133_53 rfl ?_
    refine a_iconst (v := 1) q133_55 (by decide) ?_
    refine a_iald' q133_56 rfl (j := 1) rfl (by decide) (by decide) ?_
    refine a_aload q133_57 rfl ?_
    refine a_iconst (v := 2) q133_59 (by decide) ?_
    refine a_iald' q133_60 rfl (j := 2) rfl (by decide) (by decide) ?_
    refine a_aload q133_61 rfl ?_
    refine a_iconst (v := 3) q133_63 (by decide) ?_
    refine a_iald' q133_64 rfl (j := 3) rfl (by decide) (by decide) ?_
    refine a_aload q133_65 rfl ?_
    refine a_iconst (v := 4) q133_67 (by decide) ?_
    refine a_iald' q133_68 rfl (j := 4) rfl (by decide) (by decide) ?_
    refine a_aload q133_69 rfl ?_
    refine a_iconst (v := 5) q133_71 (by decide) ?_
    refine a_iald' q133_72 rfl (j := 5) rfl (by decide) (by decide) ?_
    refine a_callSW (as := [_, _, _, _, _, _, _]) q133_73 rfl rfl ⟨rfl, rfl⟩ rfl ?_
    refine q_addFull hT ((nI_eq (by have := hT.1; omega) (by decide)).mp zc45) hR ?_
    refine ck_r ?_
    refine a_ldc1 (v := (-900002)) q133_76 (by decide) ?_
    refine a_icmp_ne (tgt := 85) q133_78 (by decide) (fun zc78 => absurd zc78 (neN rfl)) (fun zc78 => ?_)
    refine a_iconst (v := 1) q133_81 (by decide) ?_
    refine a_goto (tgt := 86) q133_82 (by decide) ?_
    refine AW.hp (h' := hp _ _ _ [] ++ [cc R]) rfl ?_
    refine AW.drop rfl ?_
    refine a_ireturn q133_86 (nr_bool rfl (by decide)) ?_
    exact hq _ _ _ hr

theorem l_c24 (m9 : Nat) : ∀ {X : XS} {I : Nat → Int32} {A : Nat → Nat → Int32} {L : Nat → Nat → Int64} {Q : AO → AH → Prop} {i j k : Nat} {z w : Int32} {bc bs : Nat} (hm : k + m9 = 24) (kk : AW X 147 97 [(0, .ref 1), (1, .ref 0), (2, .int (nI i)), (3, .int (nI j)), (4, .int z), (5, .int w), (6, .int (cntB (gF A) 24))] [] (hp I A L []) bc bs Q), AW X 147 63 [(0, .ref 1), (1, .ref 0), (2, .int (nI i)), (3, .int (nI j)), (4, .int z), (5, .int w), (6, .int (cntB (gF A) k)), (7, .int (nI k))] [] (hp I A L []) (bc) (bs) Q := by
  induction m9 with
  | zero =>
    intro X I A L Q i j k z w bc bs hm kk
    refine a_iload q147_63 rfl ?_
    refine a_bipush (v := 24) q147_65 (by decide) ?_
    refine a_icmp_ge (tgt := 97) q147_67 (by decide) (fun zc67 => ?_) (fun zc67 => absurd (nI_le (show 24 ≤ k by omega) (by omega)) zc67)
    refine AW.pop_less (x := (7, _)) (lv' := [(0, _), (1, _), (2, _), (3, _), (4, _), (5, _), (6, _)]) ?_
    have e : k = 24 := by omega
    subst e; exact kk
  | succ m9 ih =>
    intro X I A L Q i j k z w bc bs hm kk
    refine a_iload q147_63 rfl ?_
    refine a_bipush (v := 24) q147_65 (by decide) ?_
    refine a_icmp_ge (tgt := 97) q147_67 (by decide) (fun zc67 => absurd zc67 (nI_ge (show k < 24 by omega) (by decide))) (fun zc67 => ?_)
    refine a_iload q147_70 rfl ?_
    refine a_aload_n (i := 1) q147_72 rfl rfl ?_
    refine a_bipush (v := 40) q147_73 (by decide) ?_
    refine a_iload q147_75 rfl ?_
    refine a_iconst (v := 4) q147_77 (by decide) ?_
    refine a_idiv q147_78 (by decide) ?_
    refine AW.ti (pk_div (a := k) (d := 4) (by omega) (by decide) (by decide)) ?_
    refine a_iadd q147_79 ?_
    refine a_iald' q147_80 rfl (j := 40 + k / 4) (nI_add 40 _) (by omega) (by decide) ?_
    refine a_iload q147_81 rfl ?_
    refine a_iconst (v := 4) q147_83 (by decide) ?_
    refine a_irem q147_84 (by decide) ?_
    refine AW.ti (pk_rem (a := k) (d := 4) (by omega) (by decide) (by decide)) ?_
    refine a_ishr q147_85 ?_
    refine a_iconst (v := 1) q147_86 (by decide) ?_
    refine a_iand q147_87 ?_
    refine a_iadd q147_88 ?_
    refine AW.ti (cnt_s (g := gF A) (gF_01 A k)) ?_
    refine a_istore (i := 6) (lv' := [(0, _), (1, _), (2, _), (3, _), (4, _), (5, _), (6, _), (7, _)]) q147_89 rfl rfl ?_
    refine a_iinc (v := nI (k + 1)) (lv' := [(0, _), (1, _), (2, _), (3, _), (4, _), (5, _), (6, _), (7, _)]) q147_91 rfl rfl (nI_1 (k)) rfl ?_
    refine a_goto (tgt := 63) q147_94 (by decide) ?_
    exact ih (show k + 1 + m9 = 24 by omega) kk

theorem c_fb_11 {X : XS} {I : Nat → Int32} {A : Nat → Nat → Int32} {L : Nat → Nat → Int64} {Q : AO → AH → Prop} {i j : Nat} (hi : i < 6) (hj : j < 4) (hr : RelL I A L) (hw : gF A (4 * i + j) = 1) (hq : ∀ I' A' L', RelL I' A' L' → Q (.inl (some (.int 1))) (hp I' A' L' [])) : Call X 147 [.ref 1, .ref 0, .int (nI i), .int (nI j), .int 1] (hp I A L []) Q := by
  refine call_of (by decide) rfl rfl ?_
  obtain ⟨n, hT, hW, h18, hC⟩ := id hr
  obtain ⟨F, hF, eF⟩ := hW.2.2.2.2.2.1 i hi
  obtain ⟨G, hG, eG, hb⟩ := (bit_t F hF j hj).1
  rw [← eF] at hb
  refine AW.cut 19 (1) (fun zk19 => ?_) ?_
  · skip
    refine a_aload_n (i := 1) q147_0 rfl rfl ?_
    refine a_bipush (v := 40) q147_1 (by decide) ?_
    refine a_iload_n (i := 2) q147_3 rfl rfl ?_
    refine a_iadd q147_4 ?_
    refine a_iald' q147_5 rfl (j := 40 + i) (nI_add 40 i) (by omega) (by decide) ?_
    refine a_iload_n (i := 3) q147_6 rfl rfl ?_
    refine a_ishr q147_7 ?_
    refine a_iconst (v := 1) q147_8 (by decide) ?_
    refine a_iand q147_9 ?_
    refine a_iconst (v := 1) q147_10 (by decide) ?_
    refine a_icmp_ne (tgt := 18) q147_11 (by decide) (fun zc11 => ?_) (fun zc11 => ?_)
    · skip
      refine a_iconst (v := 0) q147_18 (by decide) ?_
      exact cutv zk19 (by exfalso; exact zc11 ((gF_e A hj).symm.trans hw))
    · skip
      refine a_iconst (v := 1) q147_14 (by decide) ?_
      refine a_goto (tgt := 19) q147_15 (by decide) ?_
      exact cutv zk19 (rfl)
  refine a_istore (i := 5) (lv' := [(0, _), (1, _), (2, _), (3, _), (4, _), (5, _)]) q147_19 rfl rfl ?_
  refine a_aload_n (i := 1) q147_21 rfl rfl ?_
  refine a_bipush (v := 40) q147_22 (by decide) ?_
  refine a_iload_n (i := 2) q147_24 rfl rfl ?_
  refine a_iadd q147_25 ?_
  refine a_iload q147_26 rfl ?_
  refine a_if_eq (tgt := 44) q147_28 (by decide) (fun zc28 => absurd zc28 (by decide)) (fun zc28 => ?_)
  refine a_aload_n (i := 1) q147_31 rfl rfl ?_
  refine a_bipush (v := 40) q147_32 (by decide) ?_
  refine a_iload_n (i := 2) q147_34 rfl rfl ?_
  refine a_iadd q147_35 ?_
  refine a_iald' q147_36 rfl (j := 40 + i) (nI_add 40 i) (by omega) (by decide) ?_
  refine a_iconst (v := 1) q147_37 (by decide) ?_
  refine a_iload_n (i := 3) q147_38 rfl rfl ?_
  refine a_ishl q147_39 ?_
  refine a_ior q147_40 ?_
  refine a_goto (tgt := 56) q147_41 (by decide) ?_
  refine AW.ti (show _ = nI G by rw [eF]; exact eG) ?_
  refine a_iast' q147_56 rfl (j := 40 + i) (nI_add 40 i) (by omega) (by decide) (h' := hp I (va_up A 30 (upd (A 30) (40 + i) (nI G))) L []) rfl ?_
  refine a_iconst (v := 0) q147_57 (by decide) ?_
  refine a_istore (i := 6) (lv' := [(0, _), (1, _), (2, _), (3, _), (4, _), (5, _), (6, _)]) q147_58 rfl rfl ?_
  refine a_iconst (v := 0) q147_60 (by decide) ?_
  refine a_istore (i := 7) (lv' := [(0, _), (1, _), (2, _), (3, _), (4, _), (5, _), (6, _), (7, _)]) q147_61 rfl rfl ?_
  refine l_c24 24 (k := 0) rfl ?_
  refine a_iload q147_97 rfl ?_
  refine a_if_eq (tgt := 111) q147_99 (by decide) (fun zc99 => absurd zc99 (by decide)) (fun zc99 => ?_)
  refine a_aload_n (i := 0) q147_102 rfl rfl ?_
  refine a_iload_n (i := 2) q147_103 rfl rfl ?_
  refine a_iload_n (i := 3) q147_104 rfl rfl ?_
  refine a_callSW (as := [_, _, _]) q147_105 rfl rfl ⟨rfl, rfl⟩ rfl ?_
  refine q_forbid hT hW h18 hC hi hj hG hb rfl (fun _ hr' => ?_) (fun g => absurd (hw.symm.trans g) (by decide))
  refine ck_r ?_
  refine a_goto (tgt := 117) q147_108 (by decide) ?_
  refine a_iload q147_117 rfl ?_
  refine a_iload q147_119 rfl ?_
  refine a_icmp_ne (tgt := 129) q147_121 (by decide) (fun zc121 => absurd zc121 (neN rfl)) (fun zc121 => ?_)
  refine a_ldc1 (v := (-900002)) q147_124 (by decide) ?_
  refine a_goto (tgt := 131) q147_126 (by decide) ?_
  refine a_icmp_ne (tgt := 138) q147_131 (by decide) (fun zc131 => absurd zc131 (neN rfl)) (fun zc131 => ?_)
  refine a_iconst (v := 1) q147_134 (by decide) ?_
  refine a_goto (tgt := 139) q147_135 (by decide) ?_
  refine a_ireturn q147_139 (nr_bool rfl (by decide)) ?_
  exact hq _ _ _ hr'

theorem c_fb_10 {X : XS} {I : Nat → Int32} {A : Nat → Nat → Int32} {L : Nat → Nat → Int64} {Q : AO → AH → Prop} {i j : Nat} (hi : i < 6) (hj : j < 4) (hr : RelL I A L) (hw : gF A (4 * i + j) = 0) (hq : ∀ I' A' L', RelL I' A' L' → Q (.inl (some (.int 1))) (hp I' A' L' [])) : Call X 147 [.ref 1, .ref 0, .int (nI i), .int (nI j), .int 1] (hp I A L []) Q := by
  refine call_of (by decide) rfl rfl ?_
  obtain ⟨n, hT, hW, h18, hC⟩ := id hr
  obtain ⟨F, hF, eF⟩ := hW.2.2.2.2.2.1 i hi
  obtain ⟨G, hG, eG, hb⟩ := (bit_t F hF j hj).1
  rw [← eF] at hb
  refine AW.cut 19 (0) (fun zk19 => ?_) ?_
  · skip
    refine a_aload_n (i := 1) q147_0 rfl rfl ?_
    refine a_bipush (v := 40) q147_1 (by decide) ?_
    refine a_iload_n (i := 2) q147_3 rfl rfl ?_
    refine a_iadd q147_4 ?_
    refine a_iald' q147_5 rfl (j := 40 + i) (nI_add 40 i) (by omega) (by decide) ?_
    refine a_iload_n (i := 3) q147_6 rfl rfl ?_
    refine a_ishr q147_7 ?_
    refine a_iconst (v := 1) q147_8 (by decide) ?_
    refine a_iand q147_9 ?_
    refine a_iconst (v := 1) q147_10 (by decide) ?_
    refine a_icmp_ne (tgt := 18) q147_11 (by decide) (fun zc11 => ?_) (fun zc11 => ?_)
    · skip
      refine a_iconst (v := 0) q147_18 (by decide) ?_
      exact cutv zk19 (rfl)
    · skip
      refine a_iconst (v := 1) q147_14 (by decide) ?_
      refine a_goto (tgt := 19) q147_15 (by decide) ?_
      exact cutv zk19 (by exfalso; have e := ((gF_e A hj).symm.trans hw); rw [zc11] at e; exact absurd e (by decide))
  refine a_istore (i := 5) (lv' := [(0, _), (1, _), (2, _), (3, _), (4, _), (5, _)]) q147_19 rfl rfl ?_
  refine a_aload_n (i := 1) q147_21 rfl rfl ?_
  refine a_bipush (v := 40) q147_22 (by decide) ?_
  refine a_iload_n (i := 2) q147_24 rfl rfl ?_
  refine a_iadd q147_25 ?_
  refine a_iload q147_26 rfl ?_
  refine a_if_eq (tgt := 44) q147_28 (by decide) (fun zc28 => absurd zc28 (by decide)) (fun zc28 => ?_)
  refine a_aload_n (i := 1) q147_31 rfl rfl ?_
  refine a_bipush (v := 40) q147_32 (by decide) ?_
  refine a_iload_n (i := 2) q147_34 rfl rfl ?_
  refine a_iadd q147_35 ?_
  refine a_iald' q147_36 rfl (j := 40 + i) (nI_add 40 i) (by omega) (by decide) ?_
  refine a_iconst (v := 1) q147_37 (by decide) ?_
  refine a_iload_n (i := 3) q147_38 rfl rfl ?_
  refine a_ishl q147_39 ?_
  refine a_ior q147_40 ?_
  refine a_goto (tgt := 56) q147_41 (by decide) ?_
  refine AW.ti (show _ = nI G by rw [eF]; exact eG) ?_
  refine a_iast' q147_56 rfl (j := 40 + i) (nI_add 40 i) (by omega) (by decide) (h' := hp I (va_up A 30 (upd (A 30) (40 + i) (nI G))) L []) rfl ?_
  refine a_iconst (v := 0) q147_57 (by decide) ?_
  refine a_istore (i := 6) (lv' := [(0, _), (1, _), (2, _), (3, _), (4, _), (5, _), (6, _)]) q147_58 rfl rfl ?_
  refine a_iconst (v := 0) q147_60 (by decide) ?_
  refine a_istore (i := 7) (lv' := [(0, _), (1, _), (2, _), (3, _), (4, _), (5, _), (6, _), (7, _)]) q147_61 rfl rfl ?_
  refine l_c24 24 (k := 0) rfl ?_
  refine a_iload q147_97 rfl ?_
  refine a_if_eq (tgt := 111) q147_99 (by decide) (fun zc99 => absurd zc99 (by decide)) (fun zc99 => ?_)
  refine a_aload_n (i := 0) q147_102 rfl rfl ?_
  refine a_iload_n (i := 2) q147_103 rfl rfl ?_
  refine a_iload_n (i := 3) q147_104 rfl rfl ?_
  refine a_callSW (as := [_, _, _]) q147_105 rfl rfl ⟨rfl, rfl⟩ rfl ?_
  refine q_forbid hT hW h18 hC hi hj hG hb rfl (fun g => absurd (hw.symm.trans g) (by decide)) (fun _ I' hr' => ?_)
  refine ck_r ?_
  refine a_goto (tgt := 117) q147_108 (by decide) ?_
  refine a_iload q147_117 rfl ?_
  refine a_iload q147_119 rfl ?_
  refine a_icmp_ne (tgt := 129) q147_121 (by decide) (fun zc121 => ?_) (fun zc121 => absurd zc121 (by decide))
  refine a_iload q147_129 rfl ?_
  refine a_icmp_ne (tgt := 138) q147_131 (by decide) (fun zc131 => absurd zc131 (neN rfl)) (fun zc131 => ?_)
  refine a_iconst (v := 1) q147_134 (by decide) ?_
  refine a_goto (tgt := 139) q147_135 (by decide) ?_
  refine a_ireturn q147_139 (nr_bool rfl (by decide)) ?_
  exact hq _ _ _ hr'

theorem c_fb_01 {X : XS} {I : Nat → Int32} {A : Nat → Nat → Int32} {L : Nat → Nat → Int64} {Q : AO → AH → Prop} {i j : Nat} (hi : i < 6) (hj : j < 4) (hr : RelL I A L) (hw : gF A (4 * i + j) = 1) (hq : ∀ I' A' L', RelL I' A' L' → Q (.inl (some (.int 1))) (hp I' A' L' [])) : Call X 147 [.ref 1, .ref 0, .int (nI i), .int (nI j), .int 0] (hp I A L []) Q := by
  refine call_of (by decide) rfl rfl ?_
  obtain ⟨n, hT, hW, h18, hC⟩ := id hr
  obtain ⟨F, hF, eF⟩ := hW.2.2.2.2.2.1 i hi
  obtain ⟨G, hG, eG, hb⟩ := (bit_t F hF j hj).2
  rw [← eF] at hb
  refine AW.cut 19 (1) (fun zk19 => ?_) ?_
  · skip
    refine a_aload_n (i := 1) q147_0 rfl rfl ?_
    refine a_bipush (v := 40) q147_1 (by decide) ?_
    refine a_iload_n (i := 2) q147_3 rfl rfl ?_
    refine a_iadd q147_4 ?_
    refine a_iald' q147_5 rfl (j := 40 + i) (nI_add 40 i) (by omega) (by decide) ?_
    refine a_iload_n (i := 3) q147_6 rfl rfl ?_
    refine a_ishr q147_7 ?_
    refine a_iconst (v := 1) q147_8 (by decide) ?_
    refine a_iand q147_9 ?_
    refine a_iconst (v := 1) q147_10 (by decide) ?_
    refine a_icmp_ne (tgt := 18) q147_11 (by decide) (fun zc11 => ?_) (fun zc11 => ?_)
    · skip
      refine a_iconst (v := 0) q147_18 (by decide) ?_
      exact cutv zk19 (by exfalso; exact zc11 ((gF_e A hj).symm.trans hw))
    · skip
      refine a_iconst (v := 1) q147_14 (by decide) ?_
      refine a_goto (tgt := 19) q147_15 (by decide) ?_
      exact cutv zk19 (rfl)
  refine a_istore (i := 5) (lv' := [(0, _), (1, _), (2, _), (3, _), (4, _), (5, _)]) q147_19 rfl rfl ?_
  refine a_aload_n (i := 1) q147_21 rfl rfl ?_
  refine a_bipush (v := 40) q147_22 (by decide) ?_
  refine a_iload_n (i := 2) q147_24 rfl rfl ?_
  refine a_iadd q147_25 ?_
  refine a_iload q147_26 rfl ?_
  refine a_if_eq (tgt := 44) q147_28 (by decide) (fun zc28 => ?_) (fun zc28 => absurd (rfl) zc28)
  refine a_aload_n (i := 1) q147_44 rfl rfl ?_
  refine a_bipush (v := 40) q147_45 (by decide) ?_
  refine a_iload_n (i := 2) q147_47 rfl rfl ?_
  refine a_iadd q147_48 ?_
  refine a_iald' q147_49 rfl (j := 40 + i) (nI_add 40 i) (by omega) (by decide) ?_
  refine a_iconst (v := 1) q147_50 (by decide) ?_
  refine a_iload_n (i := 3) q147_51 rfl rfl ?_
  refine a_ishl q147_52 ?_
  refine a_iconst (v := (-1)) q147_53 (by decide) ?_
  refine a_ixor q147_54 ?_
  refine a_iand q147_55 ?_
  refine AW.ti (show _ = nI G by rw [eF]; exact eG) ?_
  refine a_iast' q147_56 rfl (j := 40 + i) (nI_add 40 i) (by omega) (by decide) (h' := hp I (va_up A 30 (upd (A 30) (40 + i) (nI G))) L []) rfl ?_
  refine a_iconst (v := 0) q147_57 (by decide) ?_
  refine a_istore (i := 6) (lv' := [(0, _), (1, _), (2, _), (3, _), (4, _), (5, _), (6, _)]) q147_58 rfl rfl ?_
  refine a_iconst (v := 0) q147_60 (by decide) ?_
  refine a_istore (i := 7) (lv' := [(0, _), (1, _), (2, _), (3, _), (4, _), (5, _), (6, _), (7, _)]) q147_61 rfl rfl ?_
  refine l_c24 24 (k := 0) rfl ?_
  refine a_iload q147_97 rfl ?_
  refine a_if_eq (tgt := 111) q147_99 (by decide) (fun zc99 => ?_) (fun zc99 => absurd (rfl) zc99)
  refine a_aload_n (i := 0) q147_111 rfl rfl ?_
  refine a_iload_n (i := 2) q147_112 rfl rfl ?_
  refine a_iload_n (i := 3) q147_113 rfl rfl ?_
  refine a_callSW (as := [_, _, _]) q147_114 rfl rfl ⟨rfl, rfl⟩ rfl ?_
  refine q_allow hT hW h18 hC hi hj hG hb rfl (fun g => absurd (hw.symm.trans g) (by decide)) (fun _ I' hr' => ?_)
  refine ck_r ?_
  refine a_iload q147_117 rfl ?_
  refine a_iload q147_119 rfl ?_
  refine a_icmp_ne (tgt := 129) q147_121 (by decide) (fun zc121 => ?_) (fun zc121 => absurd zc121 (by decide))
  refine a_iload q147_129 rfl ?_
  refine a_icmp_ne (tgt := 138) q147_131 (by decide) (fun zc131 => absurd zc131 (neN rfl)) (fun zc131 => ?_)
  refine a_iconst (v := 1) q147_134 (by decide) ?_
  refine a_goto (tgt := 139) q147_135 (by decide) ?_
  refine a_ireturn q147_139 (nr_bool rfl (by decide)) ?_
  exact hq _ _ _ hr'

theorem c_fb_00 {X : XS} {I : Nat → Int32} {A : Nat → Nat → Int32} {L : Nat → Nat → Int64} {Q : AO → AH → Prop} {i j : Nat} (hi : i < 6) (hj : j < 4) (hr : RelL I A L) (hw : gF A (4 * i + j) = 0) (hq : ∀ I' A' L', RelL I' A' L' → Q (.inl (some (.int 1))) (hp I' A' L' [])) : Call X 147 [.ref 1, .ref 0, .int (nI i), .int (nI j), .int 0] (hp I A L []) Q := by
  refine call_of (by decide) rfl rfl ?_
  obtain ⟨n, hT, hW, h18, hC⟩ := id hr
  obtain ⟨F, hF, eF⟩ := hW.2.2.2.2.2.1 i hi
  obtain ⟨G, hG, eG, hb⟩ := (bit_t F hF j hj).2
  rw [← eF] at hb
  refine AW.cut 19 (0) (fun zk19 => ?_) ?_
  · skip
    refine a_aload_n (i := 1) q147_0 rfl rfl ?_
    refine a_bipush (v := 40) q147_1 (by decide) ?_
    refine a_iload_n (i := 2) q147_3 rfl rfl ?_
    refine a_iadd q147_4 ?_
    refine a_iald' q147_5 rfl (j := 40 + i) (nI_add 40 i) (by omega) (by decide) ?_
    refine a_iload_n (i := 3) q147_6 rfl rfl ?_
    refine a_ishr q147_7 ?_
    refine a_iconst (v := 1) q147_8 (by decide) ?_
    refine a_iand q147_9 ?_
    refine a_iconst (v := 1) q147_10 (by decide) ?_
    refine a_icmp_ne (tgt := 18) q147_11 (by decide) (fun zc11 => ?_) (fun zc11 => ?_)
    · skip
      refine a_iconst (v := 0) q147_18 (by decide) ?_
      exact cutv zk19 (rfl)
    · skip
      refine a_iconst (v := 1) q147_14 (by decide) ?_
      refine a_goto (tgt := 19) q147_15 (by decide) ?_
      exact cutv zk19 (by exfalso; have e := ((gF_e A hj).symm.trans hw); rw [zc11] at e; exact absurd e (by decide))
  refine a_istore (i := 5) (lv' := [(0, _), (1, _), (2, _), (3, _), (4, _), (5, _)]) q147_19 rfl rfl ?_
  refine a_aload_n (i := 1) q147_21 rfl rfl ?_
  refine a_bipush (v := 40) q147_22 (by decide) ?_
  refine a_iload_n (i := 2) q147_24 rfl rfl ?_
  refine a_iadd q147_25 ?_
  refine a_iload q147_26 rfl ?_
  refine a_if_eq (tgt := 44) q147_28 (by decide) (fun zc28 => ?_) (fun zc28 => absurd (rfl) zc28)
  refine a_aload_n (i := 1) q147_44 rfl rfl ?_
  refine a_bipush (v := 40) q147_45 (by decide) ?_
  refine a_iload_n (i := 2) q147_47 rfl rfl ?_
  refine a_iadd q147_48 ?_
  refine a_iald' q147_49 rfl (j := 40 + i) (nI_add 40 i) (by omega) (by decide) ?_
  refine a_iconst (v := 1) q147_50 (by decide) ?_
  refine a_iload_n (i := 3) q147_51 rfl rfl ?_
  refine a_ishl q147_52 ?_
  refine a_iconst (v := (-1)) q147_53 (by decide) ?_
  refine a_ixor q147_54 ?_
  refine a_iand q147_55 ?_
  refine AW.ti (show _ = nI G by rw [eF]; exact eG) ?_
  refine a_iast' q147_56 rfl (j := 40 + i) (nI_add 40 i) (by omega) (by decide) (h' := hp I (va_up A 30 (upd (A 30) (40 + i) (nI G))) L []) rfl ?_
  refine a_iconst (v := 0) q147_57 (by decide) ?_
  refine a_istore (i := 6) (lv' := [(0, _), (1, _), (2, _), (3, _), (4, _), (5, _), (6, _)]) q147_58 rfl rfl ?_
  refine a_iconst (v := 0) q147_60 (by decide) ?_
  refine a_istore (i := 7) (lv' := [(0, _), (1, _), (2, _), (3, _), (4, _), (5, _), (6, _), (7, _)]) q147_61 rfl rfl ?_
  refine l_c24 24 (k := 0) rfl ?_
  refine a_iload q147_97 rfl ?_
  refine a_if_eq (tgt := 111) q147_99 (by decide) (fun zc99 => ?_) (fun zc99 => absurd (rfl) zc99)
  refine a_aload_n (i := 0) q147_111 rfl rfl ?_
  refine a_iload_n (i := 2) q147_112 rfl rfl ?_
  refine a_iload_n (i := 3) q147_113 rfl rfl ?_
  refine a_callSW (as := [_, _, _]) q147_114 rfl rfl ⟨rfl, rfl⟩ rfl ?_
  refine q_allow hT hW h18 hC hi hj hG hb rfl (fun _ hr' => ?_) (fun g => absurd (hw.symm.trans g) (by decide))
  refine ck_r ?_
  refine a_iload q147_117 rfl ?_
  refine a_iload q147_119 rfl ?_
  refine a_icmp_ne (tgt := 129) q147_121 (by decide) (fun zc121 => absurd zc121 (neN rfl)) (fun zc121 => ?_)
  refine a_ldc1 (v := (-900002)) q147_124 (by decide) ?_
  refine a_goto (tgt := 131) q147_126 (by decide) ?_
  refine a_icmp_ne (tgt := 138) q147_131 (by decide) (fun zc131 => absurd zc131 (neN rfl)) (fun zc131 => ?_)
  refine a_iconst (v := 1) q147_134 (by decide) ?_
  refine a_goto (tgt := 139) q147_135 (by decide) ?_
  refine a_ireturn q147_139 (nr_bool rfl (by decide)) ?_
  exact hq _ _ _ hr'

theorem c_L_isForbidden {X : XS} {I : Nat → Int32} {A : Nat → Nat → Int32} {L : Nat → Nat → Int64} {Q : AO → AH → Prop} {i j : Nat} {z : Int32} (hi : i < 6) (hj : j < 4) (hz : z = 0 ∨ z = 1) (hr : RelL I A L) (hq : ∀ I' A' L', RelL I' A' L' → Q (.inl (some (.int 1))) (hp I' A' L' [])) : Call X 147 [.ref 1, .ref 0, .int (nI i), .int (nI j), .int z] (hp I A L []) Q := by
  rcases gF_01 A (4 * i + j) with hw | hw
  · rcases hz with rfl | rfl
    · exact c_fb_00 hi hj hr hw hq
    · exact c_fb_10 hi hj hr hw hq
  · rcases hz with rfl | rfl
    · exact c_fb_01 hi hj hr hw hq
    · exact c_fb_11 hi hj hr hw hq