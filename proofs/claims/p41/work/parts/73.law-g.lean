/-! the law's isRanked -/
theorem ch_ix {a b : Int32} (e : a = b) : a = b := e
theorem c_L_chart {X : XS} {I : Nat → Int32} {A : Nat → Nat → Int32} {L : Nat → Nat → Int64} {Q : AO → AH → Prop} {K : Nat → Int32} {B : Nat → Int64} {t : Nat} (ht : t < 21609) (hq : ∀ C, rowOf C t → Q (.inl (some (.ref 24))) (hp I A L [kc K, lc B, cc C])) : Call X 144 [.int (nI t)] (hp I A L [kc K, lc B]) Q := by
  refine call_of (by decide) rfl rfl ?_
  refine a_bipush (v := 6) q144_0 (by decide) ?_
  refine a_newarray (a := 0) (kn := 24) (N := 6) q144_2 (by decide) rfl (by decide) rfl (by decide) rfl ⟨rfl, rfl⟩ ?_
  refine AW.hp (h' := (hp I A L [kc K, lc B, cc (fun _ => 0)])) rfl ?_
  refine a_astore_n (i := 1) (lv' := [(0, _), (1, _)]) q144_4 rfl rfl rfl ?_
  refine a_iload_n (i := 0) q144_5 rfl rfl ?_
  refine a_istore_n (i := 2) (lv' := [(0, _), (1, _), (2, _)]) q144_6 rfl rfl rfl ?_
  refine a_iconst (v := 5) q144_7 (by decide) ?_
  refine a_istore_n (i := 3) (lv' := [(0, _), (1, _), (2, _), (3, _)]) q144_8 rfl rfl rfl ?_
  refine a_iload_n (i := 3) q144_9 rfl rfl ?_
  refine a_iconst (v := 2) q144_10 (by decide) ?_
  refine a_icmp_lt (tgt := 34) q144_11 (by decide) (fun zc11 => absurd zc11 (by decide)) (fun zc11 => ?_)
  refine a_aload_n (i := 1) q144_14 rfl rfl ?_
  refine a_iload_n (i := 3) q144_15 rfl rfl ?_
  refine a_iload_n (i := 2) q144_16 rfl rfl ?_
  refine a_bipush (v := 7) q144_17 (by decide) ?_
  refine a_irem q144_19 (by decide) ?_
  refine AW.ti (pk_rem (a := t) (d := 7) (by omega) (by decide) (by decide)) ?_
  refine a_iconst (v := 1) q144_20 (by decide) ?_
  refine a_isub q144_21 ?_
  refine a_iast' q144_22 rfl (j := 5) rfl (by decide) (by decide) (h' := (hp I A L [kc K, lc B, cc (upd (fun _ => 0) 5 (xI (t % 7)))])) rfl ?_
  refine a_iload_n (i := 2) q144_23 rfl rfl ?_
  refine a_bipush (v := 7) q144_24 (by decide) ?_
  refine a_idiv q144_26 (by decide) ?_
  refine AW.ti (pk_div (a := t) (d := 7) (by omega) (by decide) (by decide)) ?_
  refine a_istore_n (i := 2) (lv' := [(0, _), (1, _), (2, _), (3, _)]) q144_27 rfl rfl rfl ?_
  refine a_iinc (v := 4) (lv' := [(0, _), (1, _), (2, _), (3, _)]) q144_28 rfl rfl (by decide) rfl ?_
  refine a_goto (tgt := 9) q144_31 (by decide) ?_
  refine a_iload_n (i := 3) q144_9 rfl rfl ?_
  refine a_iconst (v := 2) q144_10 (by decide) ?_
  refine a_icmp_lt (tgt := 34) q144_11 (by decide) (fun zc11_1 => absurd zc11_1 (by decide)) (fun zc11_1 => ?_)
  refine a_aload_n (i := 1) q144_14 rfl rfl ?_
  refine a_iload_n (i := 3) q144_15 rfl rfl ?_
  refine a_iload_n (i := 2) q144_16 rfl rfl ?_
  refine a_bipush (v := 7) q144_17 (by decide) ?_
  refine a_irem q144_19 (by decide) ?_
  refine AW.ti (pk_rem (a := t / 7) (d := 7) (by omega) (by decide) (by decide)) ?_
  refine a_iconst (v := 1) q144_20 (by decide) ?_
  refine a_isub q144_21 ?_
  refine a_iast' q144_22 rfl (j := 4) rfl (by decide) (by decide) (h' := (hp I A L [kc K, lc B, cc (upd (upd (fun _ => 0) 5 (xI (t % 7))) 4 (xI (t / 7 % 7)))])) rfl ?_
  refine a_iload_n (i := 2) q144_23 rfl rfl ?_
  refine a_bipush (v := 7) q144_24 (by decide) ?_
  refine a_idiv q144_26 (by decide) ?_
  refine AW.ti (pk_div (a := t / 7) (d := 7) (by omega) (by decide) (by decide)) ?_
  refine a_istore_n (i := 2) (lv' := [(0, _), (1, _), (2, _), (3, _)]) q144_27 rfl rfl rfl ?_
  refine a_iinc (v := 3) (lv' := [(0, _), (1, _), (2, _), (3, _)]) q144_28 rfl rfl (by decide) rfl ?_
  refine a_goto (tgt := 9) q144_31 (by decide) ?_
  refine a_iload_n (i := 3) q144_9 rfl rfl ?_
  refine a_iconst (v := 2) q144_10 (by decide) ?_
  refine a_icmp_lt (tgt := 34) q144_11 (by decide) (fun zc11_2 => absurd zc11_2 (by decide)) (fun zc11_2 => ?_)
  refine a_aload_n (i := 1) q144_14 rfl rfl ?_
  refine a_iload_n (i := 3) q144_15 rfl rfl ?_
  refine a_iload_n (i := 2) q144_16 rfl rfl ?_
  refine a_bipush (v := 7) q144_17 (by decide) ?_
  refine a_irem q144_19 (by decide) ?_
  refine AW.ti (pk_rem (a := t / 7 / 7) (d := 7) (by omega) (by decide) (by decide)) ?_
  refine a_iconst (v := 1) q144_20 (by decide) ?_
  refine a_isub q144_21 ?_
  refine a_iast' q144_22 rfl (j := 3) rfl (by decide) (by decide) (h' := (hp I A L [kc K, lc B, cc (upd (upd (upd (fun _ => 0) 5 (xI (t % 7))) 4 (xI (t / 7 % 7))) 3 (xI (t / 7 / 7 % 7)))])) rfl ?_
  refine a_iload_n (i := 2) q144_23 rfl rfl ?_
  refine a_bipush (v := 7) q144_24 (by decide) ?_
  refine a_idiv q144_26 (by decide) ?_
  refine AW.ti (pk_div (a := t / 7 / 7) (d := 7) (by omega) (by decide) (by decide)) ?_
  refine a_istore_n (i := 2) (lv' := [(0, _), (1, _), (2, _), (3, _)]) q144_27 rfl rfl rfl ?_
  refine a_iinc (v := 2) (lv' := [(0, _), (1, _), (2, _), (3, _)]) q144_28 rfl rfl (by decide) rfl ?_
  refine a_goto (tgt := 9) q144_31 (by decide) ?_
  refine a_iload_n (i := 3) q144_9 rfl rfl ?_
  refine a_iconst (v := 2) q144_10 (by decide) ?_
  refine a_icmp_lt (tgt := 34) q144_11 (by decide) (fun zc11_3 => absurd zc11_3 (by decide)) (fun zc11_3 => ?_)
  refine a_aload_n (i := 1) q144_14 rfl rfl ?_
  refine a_iload_n (i := 3) q144_15 rfl rfl ?_
  refine a_iload_n (i := 2) q144_16 rfl rfl ?_
  refine a_bipush (v := 7) q144_17 (by decide) ?_
  refine a_irem q144_19 (by decide) ?_
  refine AW.ti (pk_rem (a := t / 7 / 7 / 7) (d := 7) (by omega) (by decide) (by decide)) ?_
  refine a_iconst (v := 1) q144_20 (by decide) ?_
  refine a_isub q144_21 ?_
  refine a_iast' q144_22 rfl (j := 2) rfl (by decide) (by decide) (h' := (hp I A L [kc K, lc B, cc (upd (upd (upd (upd (fun _ => 0) 5 (xI (t % 7))) 4 (xI (t / 7 % 7))) 3 (xI (t / 7 / 7 % 7))) 2 (xI (t / 7 / 7 / 7 % 7)))])) rfl ?_
  refine a_iload_n (i := 2) q144_23 rfl rfl ?_
  refine a_bipush (v := 7) q144_24 (by decide) ?_
  refine a_idiv q144_26 (by decide) ?_
  refine AW.ti (pk_div (a := t / 7 / 7 / 7) (d := 7) (by omega) (by decide) (by decide)) ?_
  refine a_istore_n (i := 2) (lv' := [(0, _), (1, _), (2, _), (3, _)]) q144_27 rfl rfl rfl ?_
  refine a_iinc (v := 1) (lv' := [(0, _), (1, _), (2, _), (3, _)]) q144_28 rfl rfl (by decide) rfl ?_
  refine a_goto (tgt := 9) q144_31 (by decide) ?_
  refine a_iload_n (i := 3) q144_9 rfl rfl ?_
  refine a_iconst (v := 2) q144_10 (by decide) ?_
  refine a_icmp_lt (tgt := 34) q144_11 (by decide) (fun zc11_4 => ?_) (fun zc11_4 => absurd (by decide) zc11_4)
  refine a_aload_n (i := 1) q144_34 rfl rfl ?_
  refine a_iconst (v := 1) q144_35 (by decide) ?_
  refine a_iload_n (i := 2) q144_36 rfl rfl ?_
  refine a_iconst (v := 3) q144_37 (by decide) ?_
  refine a_irem q144_38 (by decide) ?_
  refine AW.ti (pk_rem (a := t / 7 / 7 / 7 / 7) (d := 3) (by omega) (by decide) (by decide)) ?_
  refine a_iast' q144_39 rfl (j := 1) rfl (by decide) (by decide) (h' := (hp I A L [kc K, lc B, cc (upd (upd (upd (upd (upd (fun _ => 0) 5 (xI (t % 7))) 4 (xI (t / 7 % 7))) 3 (xI (t / 7 / 7 % 7))) 2 (xI (t / 7 / 7 / 7 % 7))) 1 (nI (t / 7 / 7 / 7 / 7 % 3)))])) rfl ?_
  refine a_aload_n (i := 1) q144_40 rfl rfl ?_
  refine a_iconst (v := 0) q144_41 (by decide) ?_
  refine a_iload_n (i := 2) q144_42 rfl rfl ?_
  refine a_iconst (v := 3) q144_43 (by decide) ?_
  refine a_idiv q144_44 (by decide) ?_
  refine AW.ti (pk_div (a := t / 7 / 7 / 7 / 7) (d := 3) (by omega) (by decide) (by decide)) ?_
  refine a_iast' q144_45 rfl (j := 0) rfl (by decide) (by decide) (h' := (hp I A L [kc K, lc B, cc (upd (upd (upd (upd (upd (upd (fun _ => 0) 5 (xI (t % 7))) 4 (xI (t / 7 % 7))) 3 (xI (t / 7 / 7 % 7))) 2 (xI (t / 7 / 7 / 7 % 7))) 1 (nI (t / 7 / 7 / 7 / 7 % 3))) 0 (nI (t / 7 / 7 / 7 / 7 / 3)))])) rfl ?_
  refine a_aload_n (i := 1) q144_46 rfl rfl ?_
  refine a_areturn q144_47 ⟨_, rfl, Or.inr ⟨_, rfl⟩⟩ ?_
  exact hq _ ⟨rfl, rfl, rfl, rfl, rfl, rfl⟩

theorem usC_s {f : Nat → Int32} {c : Nat} (h : 0 ≤ f c ∧ f c ≤ 4) : usC f c + b2i (1 < f c) = usC f (c + 1) := by
  have zl := lits
  rw [usC]
  by_cases h1 : f c = 0 ∨ f c = 1
  · rw [if_pos h1, b2i_f (by simp only [i_lt, i_le, i_eq] at *; omega)]; exact Int32.add_zero _
  · rw [if_neg h1, b2i_t (by simp only [i_lt, i_le, i_eq] at *; omega)]
theorem l_liv (m9 : Nat) : ∀ {X : XS} {I : Nat → Int32} {A : Nat → Nat → Int32} {L : Nat → Nat → Int64} {Q : AO → AH → Prop} {K : Nat → Int32} {B : Nat → Int64} {n bc bs : Nat} {c : Nat} (hT : Tbl n I A L) (hW : Wsh I A) (hm : c + m9 = 6) (kk : AW X 150 41 [(0, .ref 1), (1, .ref 0), (2, .ref 23), (3, .int (usC (A 4) 6))] [] (hp I A L [kc K, lc B]) bc bs Q), AW X 150 10 [(0, .ref 1), (1, .ref 0), (2, .ref 23), (3, .int (usC (A 4) c)), (4, .int (nI c))] [] (hp I A L [kc K, lc B]) (bc) (bs) Q := by
  induction m9 with
  | zero =>
    intro X I A L Q K B n bc bs c hT hW hm kk
    refine a_iload q150_10 rfl ?_
    refine a_bipush (v := 6) q150_12 (by decide) ?_
    refine a_icmp_ge (tgt := 41) q150_14 (by decide) (fun zc14 => ?_) (fun zc14 => absurd (nI_le (show 6 ≤ c by omega) (by omega)) zc14)
    refine AW.pop_less (x := (4, _)) (lv' := [(0, _), (1, _), (2, _), (3, _)]) ?_
    have e : c = 6 := by omega
    subst e; exact kk
  | succ m9 ih =>
    intro X I A L Q K B n bc bs c hT hW hm kk
    have hc : c < 6 := by omega
    refine a_iload q150_10 rfl ?_
    refine a_bipush (v := 6) q150_12 (by decide) ?_
    refine a_icmp_ge (tgt := 41) q150_14 (by decide) (fun zc14 => absurd zc14 (nI_ge (show c < 6 by omega) (by decide))) (fun zc14 => ?_)
    refine a_iload_n (i := 3) q150_17 rfl rfl ?_
    refine AW.cut 33 (b2i (1 < A 4 c)) (fun zk33 => ?_) ?_
    · skip
      refine a_aload_n (i := 1) q150_18 rfl rfl ?_
      refine a_iload q150_19 rfl ?_
      refine a_cs2 q150_21 rfl ⟨rfl, rfl⟩ rfl ?_
      refine c_L_kind hT.2.2.1 hT.1 hc (tv_ok hT c hc) ?_
      refine ck_r ?_
      refine AW.ti (nkd_e hT hc).1 ?_
      refine a_iconst (v := 1) q150_24 (by decide) ?_
      refine a_icmp_le (tgt := 32) q150_25 (by decide) (fun zc25 => ?_) (fun zc25 => ?_)
      · skip
        refine a_iconst (v := 0) q150_32 (by decide) ?_
        exact cutv zk33 (by unfold b2i; split <;> first | rfl | (exfalso; simp_all [i_nle, i_nlt]; done) | (rename_i y; first | exact absurd y (i_nlt.mpr zc25) | exact absurd (i_nle.mp zc25) y))
      · skip
        refine a_iconst (v := 1) q150_28 (by decide) ?_
        refine a_goto (tgt := 33) q150_29 (by decide) ?_
        exact cutv zk33 (by unfold b2i; split <;> first | rfl | (exfalso; simp_all [i_nle, i_nlt]; done) | (rename_i y; first | exact absurd y (i_nlt.mpr zc25) | exact absurd (i_nle.mp zc25) y))
    refine a_iadd q150_33 ?_
    refine AW.ti (usC_s (by have := KO_r hT hW (KA_ok (A := A)) c hc; unfold KA at this; rw [if_pos hc] at this; exact this)) ?_
    refine a_istore_n (i := 3) (lv' := [(0, _), (1, _), (2, _), (3, _), (4, _)]) q150_34 rfl rfl rfl ?_
    refine a_iinc (v := nI (c + 1)) (lv' := [(0, _), (1, _), (2, _), (3, _), (4, _)]) q150_35 rfl rfl (nI_1 (c)) rfl ?_
    refine a_goto (tgt := 10) q150_38 (by decide) ?_
    exact ih hT hW (show c + 1 + m9 = 6 by omega) kk

theorem key_div {co : Int32 → Int32} (hc : coOK co) {t : Nat} (ht : t < 21609) : (lkey co t / 100000).toInt32 = co (codI t) ∧ (lkey co t - lkey co t / 100000 * 100000).toInt32 = nI t := by
  obtain ⟨C, c1, c2⟩ := hc t ht
  rw [lkey_N ht c1 c2, show (100000 : Int64) = lN 100000 from rfl, pk_lRem (by omega) (by decide) (by decide), pk_lDiv (by omega) (by decide) (by decide), lN_i, lN_i, c2, show (100000 * C + t) / 100000 = C by omega, show (100000 * C + t) % 100000 = t by omega]
  exact ⟨rfl, rfl⟩
theorem row_e {C : Nat → Int32} {t : Nat} (ht : t < 21609) (h : rowOf C t) : g_mark (codI t) = g_named (C 0) ∧ g_agg (codI t) = C 1 ∧ g_col (codI t) 0 = C 2 ∧ g_col (codI t) 1 = C 3 ∧ g_col (codI t) 2 = C 4 ∧ g_col (codI t) 3 = C 5 := by
  have hd := dgt_t ht
  obtain ⟨h0, h1, h2, h3, h4, h5⟩ := h
  rw [h0, h1, h2, h3, h4, h5, named_mkN hd.1]
  exact ⟨cod_mark hd, cod_agg hd, cod_c0 hd, cod_c1 hd, cod_c2 hd, cod_c3 hd⟩
set_option maxRecDepth 100000 in
theorem l_rkd (m9 : Nat) : ∀ {X : XS} {I : Nat → Int32} {A : Nat → Nat → Int32} {L : Nat → Nat → Int64} {Q : AO → AH → Prop} {K : Nat → Int32} {B : Nat → Int64} {n bc bs : Nat} {fb co : Int32 → Int32} {k : Nat} (hX2 : X.2 = 22) (h : Okk n fb co I A L) (hB : RB fb co 21609 B) (hm : k + m9 = 6) (hq : ∀ I' L', Okk n fb co I' A L' → Q (.inl (some (.int 1))) (hp I' A L' [])), AW X 150 58 [(0, .ref 1), (1, .ref 0), (2, .ref 23), (3, .int (usC (A 4) 6)), (4, .int (nI k))] [] (hp I A L [kc K, lc B]) (14 * m9 + bc) (84 * m9 + bs) Q := by
  induction m9 with
  | zero =>
    intro X I A L Q K B n bc bs fb co k hX2 h hB hm hq
    refine a_iload q150_58 rfl ?_
    refine a_iconst (v := 5) q150_60 (by decide) ?_
    refine a_icmp_gt (tgt := 304) q150_61 (by decide) (fun zc61 => ?_) (fun zc61 => absurd (nI_lt (show 5 < k by omega) (by omega)) zc61)
    refine AW.hp (h' := hp I A L [] ++ [kc K, lc B]) rfl ?_
    refine AW.drop (by rw [hX2]; rfl) ?_
    refine a_iconst (v := 1) q150_304 (by decide) ?_
    refine a_ireturn q150_305 (nr_bool rfl (by decide)) ?_
    exact hq _ _ h
  | succ m9 ih =>
    intro X I A L Q K B n bc bs fb co k hX2 h hB hm hq
    have hk6 : k < 6 := by omega
    have hco := ok_co h
    refine AW.wide (bc' := 14 * m9 + bc + 14) (bs' := 84 * m9 + bs + 84) (by omega) (by omega) ?_
    rcases at_or hco hB (ok_rk h) hk6 with hn | ⟨t, ht⟩
    · skip
      refine a_iload q150_58 rfl ?_
      refine a_iconst (v := 5) q150_60 (by decide) ?_
      refine a_icmp_gt (tgt := 304) q150_61 (by decide) (fun zc61 => absurd zc61 (nI_nlt (show k ≤ 5 by omega) (by decide))) (fun zc61 => ?_)
      refine AW.cut 86 (1) (fun zk86 => ?_) ?_
      · skip
        refine a_iload q150_64 rfl ?_
        refine a_iconst (v := 5) q150_66 (by decide) ?_
        refine a_icmp_eq (tgt := 81) q150_67 (by decide) (fun zc67 => ?_) (fun zc67 => ?_)
        · skip
          refine a_iconst (v := 1) q150_81 (by decide) ?_
          refine a_goto (tgt := 86) q150_82 (by decide) ?_
          exact cutv zk86 (rfl)
        · skip
          have k5 : k < 5 := by
            have : ¬ k = 5 := fun zz => zc67 (by rw [zz]; rfl)
            omega
          refine a_aload_n (i := 2) q150_70 rfl rfl ?_
          refine a_iload q150_71 rfl ?_
          refine a_lald' q150_73 rfl (j := k) rfl (by omega) (by decide) ?_
          refine a_ldc2 (v := 9223372036854775807) q150_74 (by decide) ?_
          refine a_lcmp q150_77 ?_
          refine a_if_ne (tgt := 85) q150_78 (by decide) (fun zc78 => ?_) (fun zc78 => ?_)
          · skip
            refine a_iconst (v := 0) q150_85 (by decide) ?_
            exact cutv zk86 (by exfalso; exact zc78 ((lg_cmp_eq _ _).mpr (hn.elim (fun zz => absurd (by rw [zz]; rfl) zc67) (fun zz => zz.2))))
          · skip
            refine a_iconst (v := 1) q150_81 (by decide) ?_
            refine a_goto (tgt := 86) q150_82 (by decide) ?_
            exact cutv zk86 (rfl)
      refine a_istore (i := 5) (lv' := [(0, _), (1, _), (2, _), (3, _), (4, _), (5, _)]) q150_86 rfl rfl ?_
      refine a_iload q150_88 rfl ?_
      refine a_if_eq (tgt := 98) q150_90 (by decide) (fun zc90 => absurd zc90 (by decide)) (fun zc90 => ?_)
      refine a_ldc1 (v := (-900001)) q150_93 (by decide) ?_
      refine a_goto (tgt := 107) q150_95 (by decide) ?_
      refine a_istore (i := 6) (lv' := [(0, _), (1, _), (2, _), (3, _), (4, _), (5, _), (6, _)]) q150_107 rfl rfl ?_
      refine AW.cut 131 (triedV A (-900002)) (fun zk131 => ?_) ?_
      · skip
        refine a_iload_n (i := 3) q150_109 rfl rfl ?_
        refine a_iconst (v := 3) q150_110 (by decide) ?_
        refine a_icmp_le (tgt := 119) q150_111 (by decide) (fun zc111 => ?_) (fun zc111 => ?_)
        · skip
          refine a_iload q150_119 rfl ?_
          refine a_if_eq (tgt := 129) q150_121 (by decide) (fun zc121 => absurd zc121 (by decide)) (fun zc121 => ?_)
          refine a_ldc1 (v := (-900002)) q150_124 (by decide) ?_
          refine a_goto (tgt := 131) q150_126 (by decide) ?_
          exact cutv zk131 (tri_p (by assumption))
        · skip
          refine a_ldc1 (v := (-900001)) q150_114 (by decide) ?_
          refine a_goto (tgt := 131) q150_116 (by decide) ?_
          exact cutv zk131 (tri_n zc111)
      refine a_istore (i := 7) (lv' := [(0, _), (1, _), (2, _), (3, _), (4, _), (5, _), (6, _), (7, _)]) q150_131 rfl rfl ?_
      refine a_iload q150_133 rfl ?_
      refine a_if_eq (tgt := 142) q150_135 (by decide) (fun zc135 => absurd zc135 (by decide)) (fun zc135 => ?_)
      refine a_iconst (v := 0) q150_138 (by decide) ?_
      refine a_goto (tgt := 151) q150_139 (by decide) ?_
      refine a_callS (as := [_]) q150_151 rfl rfl ⟨rfl, rfl⟩ (Or.inr ⟨rfl, rfl, rfl⟩) (c_L_chart (t := 0) (by decide) (fun C hC => ck_r ?_))
      refine a_astore (i := 8) (lv' := [(0, _), (1, _), (2, _), (3, _), (4, _), (5, _), (6, _), (7, _), (8, _)]) q150_154 rfl rfl ?_
      refine AW.cut 183 (g_named (C 0)) (fun zk183 => ?_) ?_
      · skip
        refine a_aload q150_156 rfl ?_
        refine a_iconst (v := 0) q150_158 (by decide) ?_
        refine a_iald' q150_159 rfl (j := 0) rfl (by decide) (by decide) ?_
        refine a_if_ne (tgt := 168) q150_160 (by decide) (fun zc160 => ?_) (fun zc160 => ?_)
        · skip
          refine a_aload q150_168 rfl ?_
          refine a_iconst (v := 0) q150_170 (by decide) ?_
          refine a_iald' q150_171 rfl (j := 0) rfl (by decide) (by decide) ?_
          refine a_iconst (v := 1) q150_172 (by decide) ?_
          refine a_icmp_ne (tgt := 181) q150_173 (by decide) (fun zc173 => ?_) (fun zc173 => ?_)
          · skip
            refine a_bipush (v := 112) q150_181 (by decide) ?_
            exact cutv zk183 (by unfold g_named; rw [if_neg zc160, if_neg zc173])
          · skip
            refine a_bipush (v := 108) q150_176 (by decide) ?_
            refine a_goto (tgt := 183) q150_178 (by decide) ?_
            exact cutv zk183 (by unfold g_named; rw [if_neg zc160, if_pos zc173])
        · skip
          refine a_bipush (v := 98) q150_163 (by decide) ?_
          refine a_goto (tgt := 183) q150_165 (by decide) ?_
          exact cutv zk183 (by unfold g_named; rw [if_pos zc160])
      refine a_istore (i := 9) (lv' := [(0, _), (1, _), (2, _), (3, _), (4, _), (5, _), (6, _), (7, _), (8, _), (9, _)]) q150_183 rfl rfl ?_
      refine a_aload_n (i := 0) q150_185 rfl rfl ?_
      refine a_iload q150_186 rfl ?_
      refine a_callSW (as := [_, _]) q150_188 rfl rfl ⟨rfl, rfl⟩ rfl ?_
      refine q_cost_n hk6 h hB hn (fun I L h => ?_)
      refine ck_r ?_
      refine a_iload q150_191 rfl ?_
      refine a_icmp_ne (tgt := 251) q150_193 (by decide) (fun zc193 => absurd zc193 (neN rfl)) (fun zc193 => ?_)
      refine a_aload_n (i := 0) q150_196 rfl rfl ?_
      refine a_iload q150_197 rfl ?_
      refine a_callSW (as := [_, _]) q150_199 rfl rfl ⟨rfl, rfl⟩ rfl ?_
      refine q_try_n hk6 h hB hn (fun I L h => ?_)
      refine ck_r ?_
      refine a_iload q150_202 rfl ?_
      refine a_icmp_ne (tgt := 251) q150_204 (by decide) (fun zc204 => absurd zc204 (neN rfl)) (fun zc204 => ?_)
      refine a_aload_n (i := 0) q150_207 rfl rfl ?_
      refine a_iload q150_208 rfl ?_
      refine a_callSW (as := [_, _]) q150_210 rfl rfl ⟨rfl, rfl⟩ rfl ?_
      refine q_mark_n hk6 h hB hn (fun I L h => ?_)
      refine ck_r ?_
      refine a_iload q150_213 rfl ?_
      refine a_if_eq (tgt := 223) q150_215 (by decide) (fun zc215 => absurd zc215 (by decide)) (fun zc215 => ?_)
      refine a_ldc1 (v := (-900001)) q150_218 (by decide) ?_
      refine a_goto (tgt := 225) q150_220 (by decide) ?_
      refine a_icmp_ne (tgt := 251) q150_225 (by decide) (fun zc225 => absurd zc225 (neN rfl)) (fun zc225 => ?_)
      refine a_aload_n (i := 0) q150_228 rfl rfl ?_
      refine a_iload q150_229 rfl ?_
      refine a_callSW (as := [_, _]) q150_231 rfl rfl ⟨rfl, rfl⟩ rfl ?_
      refine q_agg_n hk6 h hB hn (fun I L h => ?_)
      refine ck_r ?_
      refine a_iload q150_234 rfl ?_
      refine a_if_eq (tgt := 244) q150_236 (by decide) (fun zc236 => absurd zc236 (by decide)) (fun zc236 => ?_)
      refine a_ldc1 (v := (-900001)) q150_239 (by decide) ?_
      refine a_goto (tgt := 248) q150_241 (by decide) ?_
      refine a_icmp_eq (tgt := 253) q150_248 (by decide) (fun zc248 => ?_) (fun zc248 => absurd (rfl) zc248)
      refine a_iconst (v := 0) q150_253 (by decide) ?_
      refine a_istore (i := 10) (lv' := [(0, _), (1, _), (2, _), (3, _), (4, _), (5, _), (6, _), (7, _), (8, _), (9, _), (10, _)]) q150_254 rfl rfl ?_
      refine a_iload q150_256 rfl ?_
      refine a_iconst (v := 4) q150_258 (by decide) ?_
      refine a_icmp_ge (tgt := 298) q150_259 (by decide) (fun zc259 => absurd zc259 (by decide)) (fun zc259 => ?_)
      refine a_aload_n (i := 0) q150_262 rfl rfl ?_
      refine a_iload q150_263 rfl ?_
      refine a_iload q150_265 rfl ?_
      refine a_callSW (as := [_, _, _]) q150_267 rfl rfl ⟨rfl, rfl⟩ rfl ?_
      refine q_col_n hk6 h hB hn (fun I L h => ?_)
      refine ck_r ?_
      refine a_iload q150_270 rfl ?_
      refine a_if_eq (tgt := 280) q150_272 (by decide) (fun zc272 => absurd zc272 (by decide)) (fun zc272 => ?_)
      refine a_ldc1 (v := (-900001)) q150_275 (by decide) ?_
      refine a_goto (tgt := 287) q150_277 (by decide) ?_
      refine a_icmp_eq (tgt := 292) q150_287 (by decide) (fun zc287 => ?_) (fun zc287 => absurd (rfl) zc287)
      refine a_iinc (v := nI (0 + 1)) (lv' := [(0, _), (1, _), (2, _), (3, _), (4, _), (5, _), (6, _), (7, _), (8, _), (9, _), (10, _)]) q150_292 rfl rfl (nI_1 (0)) rfl ?_
      refine a_goto (tgt := 256) q150_295 (by decide) ?_
      refine a_iload q150_256 rfl ?_
      refine a_iconst (v := 4) q150_258 (by decide) ?_
      refine a_icmp_ge (tgt := 298) q150_259 (by decide) (fun zc259_1 => absurd zc259_1 (by decide)) (fun zc259_1 => ?_)
      refine a_aload_n (i := 0) q150_262 rfl rfl ?_
      refine a_iload q150_263 rfl ?_
      refine a_iload q150_265 rfl ?_
      refine a_callSW (as := [_, _, _]) q150_267 rfl rfl ⟨rfl, rfl⟩ rfl ?_
      refine q_col_n hk6 h hB hn (fun I L h => ?_)
      refine ck_r ?_
      refine a_iload q150_270 rfl ?_
      refine a_if_eq (tgt := 280) q150_272 (by decide) (fun zc272_1 => absurd zc272_1 (by decide)) (fun zc272_1 => ?_)
      refine a_ldc1 (v := (-900001)) q150_275 (by decide) ?_
      refine a_goto (tgt := 287) q150_277 (by decide) ?_
      refine a_icmp_eq (tgt := 292) q150_287 (by decide) (fun zc287_1 => ?_) (fun zc287_1 => absurd (rfl) zc287_1)
      refine a_iinc (v := nI (1 + 1)) (lv' := [(0, _), (1, _), (2, _), (3, _), (4, _), (5, _), (6, _), (7, _), (8, _), (9, _), (10, _)]) q150_292 rfl rfl (nI_1 (1)) rfl ?_
      refine a_goto (tgt := 256) q150_295 (by decide) ?_
      refine a_iload q150_256 rfl ?_
      refine a_iconst (v := 4) q150_258 (by decide) ?_
      refine a_icmp_ge (tgt := 298) q150_259 (by decide) (fun zc259_2 => absurd zc259_2 (by decide)) (fun zc259_2 => ?_)
      refine a_aload_n (i := 0) q150_262 rfl rfl ?_
      refine a_iload q150_263 rfl ?_
      refine a_iload q150_265 rfl ?_
      refine a_callSW (as := [_, _, _]) q150_267 rfl rfl ⟨rfl, rfl⟩ rfl ?_
      refine q_col_n hk6 h hB hn (fun I L h => ?_)
      refine ck_r ?_
      refine a_iload q150_270 rfl ?_
      refine a_if_eq (tgt := 280) q150_272 (by decide) (fun zc272_2 => absurd zc272_2 (by decide)) (fun zc272_2 => ?_)
      refine a_ldc1 (v := (-900001)) q150_275 (by decide) ?_
      refine a_goto (tgt := 287) q150_277 (by decide) ?_
      refine a_icmp_eq (tgt := 292) q150_287 (by decide) (fun zc287_2 => ?_) (fun zc287_2 => absurd (rfl) zc287_2)
      refine a_iinc (v := nI (2 + 1)) (lv' := [(0, _), (1, _), (2, _), (3, _), (4, _), (5, _), (6, _), (7, _), (8, _), (9, _), (10, _)]) q150_292 rfl rfl (nI_1 (2)) rfl ?_
      refine a_goto (tgt := 256) q150_295 (by decide) ?_
      refine a_iload q150_256 rfl ?_
      refine a_iconst (v := 4) q150_258 (by decide) ?_
      refine a_icmp_ge (tgt := 298) q150_259 (by decide) (fun zc259_3 => absurd zc259_3 (by decide)) (fun zc259_3 => ?_)
      refine a_aload_n (i := 0) q150_262 rfl rfl ?_
      refine a_iload q150_263 rfl ?_
      refine a_iload q150_265 rfl ?_
      refine a_callSW (as := [_, _, _]) q150_267 rfl rfl ⟨rfl, rfl⟩ rfl ?_
      refine q_col_n hk6 h hB hn (fun I L h => ?_)
      refine ck_r ?_
      refine a_iload q150_270 rfl ?_
      refine a_if_eq (tgt := 280) q150_272 (by decide) (fun zc272_3 => absurd zc272_3 (by decide)) (fun zc272_3 => ?_)
      refine a_ldc1 (v := (-900001)) q150_275 (by decide) ?_
      refine a_goto (tgt := 287) q150_277 (by decide) ?_
      refine a_icmp_eq (tgt := 292) q150_287 (by decide) (fun zc287_3 => ?_) (fun zc287_3 => absurd (rfl) zc287_3)
      refine a_iinc (v := nI (3 + 1)) (lv' := [(0, _), (1, _), (2, _), (3, _), (4, _), (5, _), (6, _), (7, _), (8, _), (9, _), (10, _)]) q150_292 rfl rfl (nI_1 (3)) rfl ?_
      refine a_goto (tgt := 256) q150_295 (by decide) ?_
      refine a_iload q150_256 rfl ?_
      refine a_iconst (v := 4) q150_258 (by decide) ?_
      refine a_icmp_ge (tgt := 298) q150_259 (by decide) (fun zc259_4 => ?_) (fun zc259_4 => absurd (by decide) zc259_4)
      refine a_iinc (v := nI (k + 1)) (lv' := [(0, _), (1, _), (2, _), (3, _), (4, _), (5, _), (6, _), (7, _), (8, _), (9, _), (10, _)]) q150_298 rfl rfl (nI_1 (k)) rfl ?_
      refine a_goto (tgt := 58) q150_301 (by decide) ?_
      refine AW.pop_less (x := (10, _)) (lv' := [(0, _), (1, _), (2, _), (3, _), (4, _), (5, _), (6, _), (7, _), (8, _), (9, _)]) ?_
      refine AW.pop_less (x := (9, _)) (lv' := [(0, _), (1, _), (2, _), (3, _), (4, _), (5, _), (6, _), (7, _), (8, _)]) ?_
      refine AW.pop_less (x := (8, _)) (lv' := [(0, _), (1, _), (2, _), (3, _), (4, _), (5, _), (6, _), (7, _)]) ?_
      refine AW.pop_less (x := (7, _)) (lv' := [(0, _), (1, _), (2, _), (3, _), (4, _), (5, _), (6, _)]) ?_
      refine AW.pop_less (x := (6, _)) (lv' := [(0, _), (1, _), (2, _), (3, _), (4, _), (5, _)]) ?_
      refine AW.pop_less (x := (5, _)) (lv' := [(0, _), (1, _), (2, _), (3, _), (4, _)]) ?_
      refine AW.hp (h' := hp _ A _ [kc K, lc B] ++ [cc C]) rfl ?_
      refine AW.drop (by rw [hX2]; rfl) ?_
      refine AW.wide (bc' := 14 * m9 + bc) (bs' := 84 * m9 + bs) (Nat.le_of_eq rfl) (Nat.le_of_eq rfl) ?_
      exact ih hX2 h hB (show k + 1 + m9 = 6 by omega) hq
    · skip
      refine a_iload q150_58 rfl ?_
      refine a_iconst (v := 5) q150_60 (by decide) ?_
      refine a_icmp_gt (tgt := 304) q150_61 (by decide) (fun zc61 => absurd zc61 (nI_nlt (show k ≤ 5 by omega) (by decide))) (fun zc61 => ?_)
      refine AW.cut 86 (0) (fun zk86 => ?_) ?_
      · skip
        refine a_iload q150_64 rfl ?_
        refine a_iconst (v := 5) q150_66 (by decide) ?_
        refine a_icmp_eq (tgt := 81) q150_67 (by decide) (fun zc67 => ?_) (fun zc67 => ?_)
        · skip
          refine a_iconst (v := 1) q150_81 (by decide) ?_
          refine a_goto (tgt := 86) q150_82 (by decide) ?_
          exact cutv zk86 (by exfalso; have := (nI_eq (a := k) (b := 5) (by omega) (by decide)).mp zc67; have := ht.1; omega)
        · skip
          have k5 : k < 5 := by
            have : ¬ k = 5 := fun zz => zc67 (by rw [zz]; rfl)
            omega
          refine a_aload_n (i := 2) q150_70 rfl rfl ?_
          refine a_iload q150_71 rfl ?_
          refine a_lald' q150_73 rfl (j := k) rfl (by omega) (by decide) ?_
          refine a_ldc2 (v := 9223372036854775807) q150_74 (by decide) ?_
          refine a_lcmp q150_77 ?_
          refine a_if_ne (tgt := 85) q150_78 (by decide) (fun zc78 => ?_) (fun zc78 => ?_)
          · skip
            refine a_iconst (v := 0) q150_85 (by decide) ?_
            exact cutv zk86 (rfl)
          · skip
            refine a_iconst (v := 1) q150_81 (by decide) ?_
            refine a_goto (tgt := 86) q150_82 (by decide) ?_
            exact cutv zk86 (by exfalso; have e := (lg_cmp_eq _ _).mp zc78; rw [ht.2.2] at e; have y := lkey_M hco ht.2.1; rw [e] at y; exact absurd y (by decide))
      refine a_istore (i := 5) (lv' := [(0, _), (1, _), (2, _), (3, _), (4, _), (5, _)]) q150_86 rfl rfl ?_
      refine a_iload q150_88 rfl ?_
      refine a_if_eq (tgt := 98) q150_90 (by decide) (fun zc90 => ?_) (fun zc90 => absurd (by decide) zc90)
      refine a_aload_n (i := 2) q150_98 rfl rfl ?_
      refine a_iload q150_99 rfl ?_
      refine a_lald' q150_101 rfl (j := k) rfl (by have := ht.1; omega) (by decide) ?_
      refine a_ldc2 (v := 100000) q150_102 (by decide) ?_
      refine a_ldiv q150_105 (by decide) ?_
      refine a_l2i q150_106 ?_
      refine AW.ti (show _ = co (codI t) by rw [ht.2.2]; exact (key_div hco ht.2.1).1) ?_
      refine a_istore (i := 6) (lv' := [(0, _), (1, _), (2, _), (3, _), (4, _), (5, _), (6, _)]) q150_107 rfl rfl ?_
      refine AW.cut 131 (triedV A (co (codI t))) (fun zk131 => ?_) ?_
      · skip
        refine a_iload_n (i := 3) q150_109 rfl rfl ?_
        refine a_iconst (v := 3) q150_110 (by decide) ?_
        refine a_icmp_le (tgt := 119) q150_111 (by decide) (fun zc111 => ?_) (fun zc111 => ?_)
        · skip
          refine a_iload q150_119 rfl ?_
          refine a_if_eq (tgt := 129) q150_121 (by decide) (fun zc121 => ?_) (fun zc121 => absurd (by decide) zc121)
          refine a_iload q150_129 rfl ?_
          exact cutv zk131 (tri_p (by assumption))
        · skip
          refine a_ldc1 (v := (-900001)) q150_114 (by decide) ?_
          refine a_goto (tgt := 131) q150_116 (by decide) ?_
          exact cutv zk131 (tri_n zc111)
      refine a_istore (i := 7) (lv' := [(0, _), (1, _), (2, _), (3, _), (4, _), (5, _), (6, _), (7, _)]) q150_131 rfl rfl ?_
      refine a_iload q150_133 rfl ?_
      refine a_if_eq (tgt := 142) q150_135 (by decide) (fun zc135 => ?_) (fun zc135 => absurd (by decide) zc135)
      refine a_aload_n (i := 2) q150_142 rfl rfl ?_
      refine a_iload q150_143 rfl ?_
      refine a_lald' q150_145 rfl (j := k) rfl (by have := ht.1; omega) (by decide) ?_
      refine a_ldc2 (v := 100000) q150_146 (by decide) ?_
      refine a_lrem q150_149 (by decide) ?_
      refine a_l2i q150_150 ?_
      refine AW.ti (show _ = nI t by rw [ht.2.2]; exact (key_div hco ht.2.1).2) ?_
      refine a_callS (as := [_]) q150_151 rfl rfl ⟨rfl, rfl⟩ (Or.inr ⟨rfl, rfl, rfl⟩) (c_L_chart (t := t) ht.2.1 (fun C hC => ck_r ?_))
      refine a_astore (i := 8) (lv' := [(0, _), (1, _), (2, _), (3, _), (4, _), (5, _), (6, _), (7, _), (8, _)]) q150_154 rfl rfl ?_
      refine AW.cut 183 (g_named (C 0)) (fun zk183 => ?_) ?_
      · skip
        refine a_aload q150_156 rfl ?_
        refine a_iconst (v := 0) q150_158 (by decide) ?_
        refine a_iald' q150_159 rfl (j := 0) rfl (by decide) (by decide) ?_
        refine a_if_ne (tgt := 168) q150_160 (by decide) (fun zc160 => ?_) (fun zc160 => ?_)
        · skip
          refine a_aload q150_168 rfl ?_
          refine a_iconst (v := 0) q150_170 (by decide) ?_
          refine a_iald' q150_171 rfl (j := 0) rfl (by decide) (by decide) ?_
          refine a_iconst (v := 1) q150_172 (by decide) ?_
          refine a_icmp_ne (tgt := 181) q150_173 (by decide) (fun zc173 => ?_) (fun zc173 => ?_)
          · skip
            refine a_bipush (v := 112) q150_181 (by decide) ?_
            exact cutv zk183 (by unfold g_named; rw [if_neg zc160, if_neg zc173])
          · skip
            refine a_bipush (v := 108) q150_176 (by decide) ?_
            refine a_goto (tgt := 183) q150_178 (by decide) ?_
            exact cutv zk183 (by unfold g_named; rw [if_neg zc160, if_pos zc173])
        · skip
          refine a_bipush (v := 98) q150_163 (by decide) ?_
          refine a_goto (tgt := 183) q150_165 (by decide) ?_
          exact cutv zk183 (by unfold g_named; rw [if_pos zc160])
      refine a_istore (i := 9) (lv' := [(0, _), (1, _), (2, _), (3, _), (4, _), (5, _), (6, _), (7, _), (8, _), (9, _)]) q150_183 rfl rfl ?_
      refine a_aload_n (i := 0) q150_185 rfl rfl ?_
      refine a_iload q150_186 rfl ?_
      refine a_callSW (as := [_, _]) q150_188 rfl rfl ⟨rfl, rfl⟩ rfl ?_
      refine q_cost_s h hB ht (fun I L h => ?_)
      refine ck_r ?_
      refine a_iload q150_191 rfl ?_
      refine a_icmp_ne (tgt := 251) q150_193 (by decide) (fun zc193 => absurd zc193 (neN rfl)) (fun zc193 => ?_)
      refine a_aload_n (i := 0) q150_196 rfl rfl ?_
      refine a_iload q150_197 rfl ?_
      refine a_callSW (as := [_, _]) q150_199 rfl rfl ⟨rfl, rfl⟩ rfl ?_
      refine q_try_s h hB ht (fun I L h => ?_)
      refine ck_r ?_
      refine a_iload q150_202 rfl ?_
      refine a_icmp_ne (tgt := 251) q150_204 (by decide) (fun zc204 => absurd zc204 (neN rfl)) (fun zc204 => ?_)
      refine a_aload_n (i := 0) q150_207 rfl rfl ?_
      refine a_iload q150_208 rfl ?_
      refine a_callSW (as := [_, _]) q150_210 rfl rfl ⟨rfl, rfl⟩ rfl ?_
      refine q_mark_s h hB ht (fun I L h => ?_)
      refine ck_r ?_
      refine a_iload q150_213 rfl ?_
      refine a_if_eq (tgt := 223) q150_215 (by decide) (fun zc215 => ?_) (fun zc215 => absurd (by decide) zc215)
      refine a_iload q150_223 rfl ?_
      refine a_icmp_ne (tgt := 251) q150_225 (by decide) (fun zc225 => absurd zc225 (neN (row_e ht.2.1 hC).1)) (fun zc225 => ?_)
      refine a_aload_n (i := 0) q150_228 rfl rfl ?_
      refine a_iload q150_229 rfl ?_
      refine a_callSW (as := [_, _]) q150_231 rfl rfl ⟨rfl, rfl⟩ rfl ?_
      refine q_agg_s h hB ht (fun I L h => ?_)
      refine ck_r ?_
      refine a_iload q150_234 rfl ?_
      refine a_if_eq (tgt := 244) q150_236 (by decide) (fun zc236 => ?_) (fun zc236 => absurd (by decide) zc236)
      refine a_aload q150_244 rfl ?_
      refine a_iconst (v := 1) q150_246 (by decide) ?_
      refine a_iald' q150_247 rfl (j := 1) rfl (by decide) (by decide) ?_
      refine a_icmp_eq (tgt := 253) q150_248 (by decide) (fun zc248 => ?_) (fun zc248 => absurd ((row_e ht.2.1 hC).2.1) zc248)
      refine a_iconst (v := 0) q150_253 (by decide) ?_
      refine a_istore (i := 10) (lv' := [(0, _), (1, _), (2, _), (3, _), (4, _), (5, _), (6, _), (7, _), (8, _), (9, _), (10, _)]) q150_254 rfl rfl ?_
      refine a_iload q150_256 rfl ?_
      refine a_iconst (v := 4) q150_258 (by decide) ?_
      refine a_icmp_ge (tgt := 298) q150_259 (by decide) (fun zc259 => absurd zc259 (by decide)) (fun zc259 => ?_)
      refine a_aload_n (i := 0) q150_262 rfl rfl ?_
      refine a_iload q150_263 rfl ?_
      refine a_iload q150_265 rfl ?_
      refine a_callSW (as := [_, _, _]) q150_267 rfl rfl ⟨rfl, rfl⟩ rfl ?_
      refine q_col_s (c := 0) (by decide) h hB ht (fun I L h => ?_)
      refine ck_r ?_
      refine a_iload q150_270 rfl ?_
      refine a_if_eq (tgt := 280) q150_272 (by decide) (fun zc272 => ?_) (fun zc272 => absurd (by decide) zc272)
      refine a_aload q150_280 rfl ?_
      refine a_iconst (v := 2) q150_282 (by decide) ?_
      refine a_iload q150_283 rfl ?_
      refine a_iadd q150_285 ?_
      refine a_iald' q150_286 rfl (j := 2) (by decide) (by decide) (by decide) ?_
      refine a_icmp_eq (tgt := 292) q150_287 (by decide) (fun zc287 => ?_) (fun zc287 => absurd ((row_e ht.2.1 hC).2.2.1) zc287)
      refine a_iinc (v := nI (0 + 1)) (lv' := [(0, _), (1, _), (2, _), (3, _), (4, _), (5, _), (6, _), (7, _), (8, _), (9, _), (10, _)]) q150_292 rfl rfl (nI_1 (0)) rfl ?_
      refine a_goto (tgt := 256) q150_295 (by decide) ?_
      refine a_iload q150_256 rfl ?_
      refine a_iconst (v := 4) q150_258 (by decide) ?_
      refine a_icmp_ge (tgt := 298) q150_259 (by decide) (fun zc259_1 => absurd zc259_1 (by decide)) (fun zc259_1 => ?_)
      refine a_aload_n (i := 0) q150_262 rfl rfl ?_
      refine a_iload q150_263 rfl ?_
      refine a_iload q150_265 rfl ?_
      refine a_callSW (as := [_, _, _]) q150_267 rfl rfl ⟨rfl, rfl⟩ rfl ?_
      refine q_col_s (c := 1) (by decide) h hB ht (fun I L h => ?_)
      refine ck_r ?_
      refine a_iload q150_270 rfl ?_
      refine a_if_eq (tgt := 280) q150_272 (by decide) (fun zc272_1 => ?_) (fun zc272_1 => absurd (by decide) zc272_1)
      refine a_aload q150_280 rfl ?_
      refine a_iconst (v := 2) q150_282 (by decide) ?_
      refine a_iload q150_283 rfl ?_
      refine a_iadd q150_285 ?_
      refine a_iald' q150_286 rfl (j := 3) (by decide) (by decide) (by decide) ?_
      refine a_icmp_eq (tgt := 292) q150_287 (by decide) (fun zc287_1 => ?_) (fun zc287_1 => absurd ((row_e ht.2.1 hC).2.2.2.1) zc287_1)
      refine a_iinc (v := nI (1 + 1)) (lv' := [(0, _), (1, _), (2, _), (3, _), (4, _), (5, _), (6, _), (7, _), (8, _), (9, _), (10, _)]) q150_292 rfl rfl (nI_1 (1)) rfl ?_
      refine a_goto (tgt := 256) q150_295 (by decide) ?_
      refine a_iload q150_256 rfl ?_
      refine a_iconst (v := 4) q150_258 (by decide) ?_
      refine a_icmp_ge (tgt := 298) q150_259 (by decide) (fun zc259_2 => absurd zc259_2 (by decide)) (fun zc259_2 => ?_)
      refine a_aload_n (i := 0) q150_262 rfl rfl ?_
      refine a_iload q150_263 rfl ?_
      refine a_iload q150_265 rfl ?_
      refine a_callSW (as := [_, _, _]) q150_267 rfl rfl ⟨rfl, rfl⟩ rfl ?_
      refine q_col_s (c := 2) (by decide) h hB ht (fun I L h => ?_)
      refine ck_r ?_
      refine a_iload q150_270 rfl ?_
      refine a_if_eq (tgt := 280) q150_272 (by decide) (fun zc272_2 => ?_) (fun zc272_2 => absurd (by decide) zc272_2)
      refine a_aload q150_280 rfl ?_
      refine a_iconst (v := 2) q150_282 (by decide) ?_
      refine a_iload q150_283 rfl ?_
      refine a_iadd q150_285 ?_
      refine a_iald' q150_286 rfl (j := 4) (by decide) (by decide) (by decide) ?_
      refine a_icmp_eq (tgt := 292) q150_287 (by decide) (fun zc287_2 => ?_) (fun zc287_2 => absurd ((row_e ht.2.1 hC).2.2.2.2.1) zc287_2)
      refine a_iinc (v := nI (2 + 1)) (lv' := [(0, _), (1, _), (2, _), (3, _), (4, _), (5, _), (6, _), (7, _), (8, _), (9, _), (10, _)]) q150_292 rfl rfl (nI_1 (2)) rfl ?_
      refine a_goto (tgt := 256) q150_295 (by decide) ?_
      refine a_iload q150_256 rfl ?_
      refine a_iconst (v := 4) q150_258 (by decide) ?_
      refine a_icmp_ge (tgt := 298) q150_259 (by decide) (fun zc259_3 => absurd zc259_3 (by decide)) (fun zc259_3 => ?_)
      refine a_aload_n (i := 0) q150_262 rfl rfl ?_
      refine a_iload q150_263 rfl ?_
      refine a_iload q150_265 rfl ?_
      refine a_callSW (as := [_, _, _]) q150_267 rfl rfl ⟨rfl, rfl⟩ rfl ?_
      refine q_col_s (c := 3) (by decide) h hB ht (fun I L h => ?_)
      refine ck_r ?_
      refine a_iload q150_270 rfl ?_
      refine a_if_eq (tgt := 280) q150_272 (by decide) (fun zc272_3 => ?_) (fun zc272_3 => absurd (by decide) zc272_3)
      refine a_aload q150_280 rfl ?_
      refine a_iconst (v := 2) q150_282 (by decide) ?_
      refine a_iload q150_283 rfl ?_
      refine a_iadd q150_285 ?_
      refine a_iald' q150_286 rfl (j := 5) (by decide) (by decide) (by decide) ?_
      refine a_icmp_eq (tgt := 292) q150_287 (by decide) (fun zc287_3 => ?_) (fun zc287_3 => absurd ((row_e ht.2.1 hC).2.2.2.2.2) zc287_3)
      refine a_iinc (v := nI (3 + 1)) (lv' := [(0, _), (1, _), (2, _), (3, _), (4, _), (5, _), (6, _), (7, _), (8, _), (9, _), (10, _)]) q150_292 rfl rfl (nI_1 (3)) rfl ?_
      refine a_goto (tgt := 256) q150_295 (by decide) ?_
      refine a_iload q150_256 rfl ?_
      refine a_iconst (v := 4) q150_258 (by decide) ?_
      refine a_icmp_ge (tgt := 298) q150_259 (by decide) (fun zc259_4 => ?_) (fun zc259_4 => absurd (by decide) zc259_4)
      refine a_iinc (v := nI (k + 1)) (lv' := [(0, _), (1, _), (2, _), (3, _), (4, _), (5, _), (6, _), (7, _), (8, _), (9, _), (10, _)]) q150_298 rfl rfl (nI_1 (k)) rfl ?_
      refine a_goto (tgt := 58) q150_301 (by decide) ?_
      refine AW.pop_less (x := (10, _)) (lv' := [(0, _), (1, _), (2, _), (3, _), (4, _), (5, _), (6, _), (7, _), (8, _), (9, _)]) ?_
      refine AW.pop_less (x := (9, _)) (lv' := [(0, _), (1, _), (2, _), (3, _), (4, _), (5, _), (6, _), (7, _), (8, _)]) ?_
      refine AW.pop_less (x := (8, _)) (lv' := [(0, _), (1, _), (2, _), (3, _), (4, _), (5, _), (6, _), (7, _)]) ?_
      refine AW.pop_less (x := (7, _)) (lv' := [(0, _), (1, _), (2, _), (3, _), (4, _), (5, _), (6, _)]) ?_
      refine AW.pop_less (x := (6, _)) (lv' := [(0, _), (1, _), (2, _), (3, _), (4, _), (5, _)]) ?_
      refine AW.pop_less (x := (5, _)) (lv' := [(0, _), (1, _), (2, _), (3, _), (4, _)]) ?_
      refine AW.hp (h' := hp _ A _ [kc K, lc B] ++ [cc C]) rfl ?_
      refine AW.drop (by rw [hX2]; rfl) ?_
      refine AW.wide (bc' := 14 * m9 + bc) (bs' := 84 * m9 + bs) (Nat.le_of_eq rfl) (Nat.le_of_eq rfl) ?_
      exact ih hX2 h hB (show k + 1 + m9 = 6 by omega) hq

theorem c_L_isRanked {X : XS} {I : Nat → Int32} {A : Nat → Nat → Int32} {L : Nat → Nat → Int64} {Q : AO → AH → Prop} (hr : RelL I A L) (hq : ∀ I' L', RelL I' A L' → Q (.inl (some (.int 1))) (hp I' A L' [])) : Call X 150 [.ref 1, .ref 0] (hp I A L []) Q := by
  refine call_of (by decide) rfl rfl ?_
  obtain ⟨n, hT, hW, h18, hC⟩ := id hr
  have hok := ok_of hT hW h18 hC
  refine a_aload_n (i := 1) q150_0 rfl rfl ?_
  refine a_callS (as := [_]) q150_1 rfl rfl ⟨rfl, rfl⟩ (Or.inr ⟨rfl, rfl, rfl⟩) (c_L_ranked hT hW (fun K B hB => ck_r ?_))
  have hB5 := (RB_all (ok_co hok) hB (ok_rk hok)).2.2.2
  refine a_astore_n (i := 2) (lv' := [(0, _), (1, _), (2, _)]) q150_4 rfl rfl rfl ?_
  refine a_iconst (v := 0) q150_5 (by decide) ?_
  refine a_istore_n (i := 3) (lv' := [(0, _), (1, _), (2, _), (3, _)]) q150_6 rfl rfl rfl ?_
  refine a_iconst (v := 0) q150_7 (by decide) ?_
  refine a_istore (i := 4) (lv' := [(0, _), (1, _), (2, _), (3, _), (4, _)]) q150_8 rfl rfl ?_
  refine l_liv 6 (c := 0) hT hW rfl ?_
  refine a_aload_n (i := 0) q150_41 rfl rfl ?_
  refine a_cv0 q150_42 rfl rfl ⟨rfl, rfl⟩ rfl ?_
  refine q_allowed hok (fun I L h => ?_)
  refine ck_r ?_
  refine a_i2l q150_45 ?_
  refine a_aload_n (i := 2) q150_46 rfl rfl ?_
  refine a_iconst (v := 5) q150_47 (by decide) ?_
  refine a_lald' q150_48 rfl (j := 5) rfl (by decide) (by decide) ?_
  refine a_lcmp q150_49 ?_
  refine a_if_eq (tgt := 55) q150_50 (by decide) (fun zc50 => ?_) (fun zc50 => absurd ((lg_cmp_eq _ _).mpr (by rw [hB5, nI_l (Nat.lt_of_le_of_lt (fb_ct_le _ 21609) (by decide))])) zc50)
  refine a_iconst (v := 0) q150_55 (by decide) ?_
  refine a_istore (i := 4) (lv' := [(0, _), (1, _), (2, _), (3, _), (4, _)]) q150_56 rfl rfl ?_
  refine AW.wide (bc' := 14 * 6 + 0) (bs' := 84 * 6 + 0) (Nat.le_of_ble_eq_true rfl) (Nat.le_of_ble_eq_true rfl) ?_
  exact l_rkd 6 (k := 0) rfl h hB rfl (fun I' L' h' => hq _ _ (ok_rel h'))
