/-! trial, picks, setters -/
abbrev TT := BT × Int32 × Int32
section PURE2
variable (fb co : Int32 → Int32)
def tStep (cmp : Int64) (ch : Int32) (t : TT) : TT := if fb ch = 0 then (offerB t.1 (p_of (co ch) ch), t.2.1 + 1, t.2.2 + b2i (p_of (co ch) ch < cmp)) else t
def tAgg (cmp : Int64) (pl mk : Int32) (s : Nat) (t : TT) : TT := tStep fb co cmp (g_bare mk (nI s) ||| pl) t
def tMark (cmp : Int64) (pl : Int32) (s : Nat) (t : TT) : TT := fl (tAgg fb co cmp pl (ro_m s)) 3 0 t
def tTry (cmp : Int64) (pl : Int32) (t : TT) : TT := fl (tMark fb co cmp pl) 3 0 t
def tOne (dull : Int32 → Prop) [DecidablePred dull] (cmp : Int64) (f : Nat → Int32) (s : Nat) (t : TT) : TT := if dull (f s) then t else tTry fb co cmp (f s) t
variable {fb co}
theorem tStep_le (cmp : Int64) (c : Int32) (t : TT) (h : t.1.1 ≤ 5) : (tStep fb co cmp c t).1.1 ≤ 5 := by
  unfold tStep; split
  · exact offerB_le h
  · exact h
theorem tMark_le (cmp : Int64) (pl : Int32) (s : Nat) (t : TT) (h : t.1.1 ≤ 5) : (tMark fb co cmp pl s t).1.1 ≤ 5 := fl_inv (I := fun t : TT => t.1.1 ≤ 5) (fun _ _ => tStep_le _ _ _) _ _ _ h
theorem tTry_le (cmp : Int64) (pl : Int32) (t : TT) (h : t.1.1 ≤ 5) : (tTry fb co cmp pl t).1.1 ≤ 5 := fl_inv (I := fun t : TT => t.1.1 ≤ 5) (fun _ _ => tMark_le _ _ _ _) _ _ _ h
end PURE2
abbrev hpT (I : Nat → Int32) (A : Nat → Nat → Int32) (L : Nat → Nat → Int64) (O : AH) (t : TT) : AH := hp (va_up (va_up (va_up I 10 (nI t.1.1)) 8 t.2.1) 9 t.2.2) A (va_up L 17 t.1.2) O

theorem c_X3_firstBroken_2 {X : XS} {I : Nat → Int32} {A : Nat → Nat → Int32} {L : Nat → Nat → Int64} {O : AH} {Q : AO → AH → Prop} {t : TT} {c : Int32} (hq : Q (.inl (some (.int (f_fb I A c)))) (hpT I A L O t)) : Call X 29 [.ref 10, .int c] (hpT I A L O t) Q := c_X3_firstBroken (lfi hq rfl)
theorem c_X2_costOf_2 {X : XS} {I : Nat → Int32} {A : Nat → Nat → Int32} {L : Nat → Nat → Int64} {O : AH} {Q : AO → AH → Prop} {t : TT} {c : Int32} (hq : Q (.inl (some (.int (f_cost I A L c)))) (hpT I A L O t)) : Call X 19 [.ref 11, .int c] (hpT I A L O t) Q := c_X2_costOf (lfi hq rfl)
theorem c_X3_dull_2 {X : XS} {I : Nat → Int32} {A : Nat → Nat → Int32} {L : Nat → Nat → Int64} {O : AH} {Q : AO → AH → Prop} {t : TT} {c : Int32} (hq : Q (.inl (some (.int (b2i (f_dull A c))))) (hpT I A L O t)) : Call X 30 [.ref 10, .int c] (hpT I A L O t) Q := c_X3_hasDullColumn hq
theorem c_X0_offer_2T {X : XS} {I : Nat → Int32} {A : Nat → Nat → Int32} {L : Nat → Nat → Int64} {O : AH} {Q : AO → AH → Prop} {t : TT} {p : Int64} (hb : t.1.1 ≤ 5) (hq : Q (.inl none) (hpT I A L O (offerB t.1 p, t.2.1, t.2.2))) : Call X 7 [.ref 17, .long p] (hpT I A L O t) Q := by
  refine c_X0_offer_2 (k := t.1.1) rfl hb (fun h => ?_) (fun h hk => ?_) (fun h hk => ?_)
  · have e : offerB t.1 p = t.1 := if_pos h
    rw [e] at hq; exact hq
  · have e : offerB t.1 p = (t.1.1 + 1, offA t.1.2 p t.1.1) := (if_neg h).trans (if_pos hk)
    rw [e] at hq; exact lfh hq rfl
  · have e : offerB t.1 p = (t.1.1, offA t.1.2 p 4) := (if_neg h).trans (if_neg (by omega))
    rw [e] at hq; exact lfh hq rfl
theorem l_tagg (m : Nat) : ∀ {X : XS} {I : Nat → Int32} {A : Nat → Nat → Int32} {L : Nat → Nat → Int64} {O : AH} {Q : AO → AH → Prop} {t : TT} {pl mk : Int32} {cmp : Int64} {i s : Nat} (hb : t.1.1 ≤ 5) (hm : s + m = 3) (hk : AW X 69 121 [(0, .ref 16), (1, .int pl), (2, .long cmp), (4, .ref 1000), (5, .int 3), (6, .int (nI i))] [] (hpT I A L O (fl (tAgg (f_fb I A) (f_cost I A L) cmp pl mk) m s t)) 0 0 Q), AW X 69 30 [(0, .ref 16), (1, .int pl), (2, .long cmp), (4, .ref 1000), (5, .int 3), (6, .int (nI i)), (7, .int mk), (8, .int (nI s))] [] (hpT I A L O t) 0 0 Q := by
  induction m with
  | zero =>
    intro X I A L O Q t pl mk cmp i s hb hm hk
    refine a_iload q69_30 rfl ?_
    refine a_iconst (v := 2) q69_32 (by decide) ?_
    refine a_icmp_gt (tgt := 121) q69_33 (by decide) (fun zc33 => ?_) (fun zc33 => absurd (nI_lt (show 2 < s by omega) (by omega)) zc33)
    refine AW.pop_less (x := (8, _)) (lv' := [(0, _), (1, _), (2, _), (4, _), (5, _), (6, _), (7, _)]) ?_
    refine AW.pop_less (x := (7, _)) (lv' := [(0, _), (1, _), (2, _), (4, _), (5, _), (6, _)]) ?_
    exact hk
  | succ m ih =>
    intro X I A L O Q t pl mk cmp i s hb hm hk
    refine a_iload q69_30 rfl ?_
    refine a_iconst (v := 2) q69_32 (by decide) ?_
    refine a_icmp_gt (tgt := 121) q69_33 (by decide) (fun zc33 => absurd zc33 (nI_nlt (show s ≤ 2 by omega) (by decide))) (fun zc33 => ?_)
    refine a_iload q69_36 rfl ?_
    refine a_iload q69_38 rfl ?_
    refine a_cs2 q69_40 rfl ⟨rfl, rfl⟩ rfl ?_
    refine c_X1_bare ?_
    refine ck_r ?_
    refine a_iload_n (i := 1) q69_43 rfl rfl ?_
    refine a_ior q69_44 ?_
    refine a_istore (i := 9) (lv' := [(0, _), (1, _), (2, _), (4, _), (5, _), (6, _), (7, _), (8, _), (9, _)]) q69_45 rfl rfl ?_
    refine a_aload_n (i := 0) q69_47 rfl rfl ?_
    refine a_getfield q69_48 rfl rfl ?_
    refine a_iload q69_51 rfl ?_
    refine a_cv1 q69_53 rfl rfl ⟨rfl, rfl⟩ rfl ?_
    refine c_X3_firstBroken_2 ?_
    refine ck_r ?_
    refine a_if_ne (tgt := 115) q69_56 (by decide) (fun zc56 => ?_) (fun zc56 => ?_)
    · skip
      refine a_iinc (v := nI (s + 1)) (lv' := [(0, _), (1, _), (2, _), (4, _), (5, _), (6, _), (7, _), (8, _), (9, _)]) q69_115 rfl rfl (nI_1 (s)) rfl ?_
      refine a_goto (tgt := 30) q69_118 (by decide) ?_
      refine AW.pop_less (x := (9, _)) (lv' := [(0, _), (1, _), (2, _), (4, _), (5, _), (6, _), (7, _), (8, _)]) ?_
      have ze : tAgg (f_fb I A) (f_cost I A L) cmp pl mk s t = t := if_neg zc56
      rw [fl, ze] at hk
      exact ih (t := _) hb (show s + 1 + m = 3 by omega) hk
    · skip
      refine a_aload_n (i := 0) q69_59 rfl rfl ?_
      refine a_getfield q69_60 rfl rfl ?_
      refine a_iload q69_63 rfl ?_
      refine a_cv1 q69_65 rfl rfl ⟨rfl, rfl⟩ rfl ?_
      refine c_X2_costOf_2 ?_
      refine ck_r ?_
      refine a_iload q69_68 rfl ?_
      refine a_cs2 q69_70 rfl ⟨rfl, rfl⟩ rfl ?_
      refine c_X5_of ?_
      refine ck_r ?_
      refine a_lstore (i := 10) (lv' := [(0, _), (1, _), (2, _), (4, _), (5, _), (6, _), (7, _), (8, _), (9, _), (10, _)]) q69_73 rfl rfl ?_
      refine a_aload_n (i := 0) q69_75 rfl rfl ?_
      refine a_dup q69_76 rfl ?_
      refine a_getfield q69_77 rfl rfl ?_
      refine a_iconst (v := 1) q69_80 (by decide) ?_
      refine a_iadd q69_81 ?_
      refine a_putfield q69_82 rfl rfl rfl rfl ?_
      refine AW.hp (h' := hpT I A L O (t.1, t.2.1 + 1, t.2.2)) rfl ?_
      refine a_aload_n (i := 0) q69_85 rfl rfl ?_
      refine a_dup q69_86 rfl ?_
      refine a_getfield q69_87 rfl rfl ?_
      refine AW.cut 102 (b2i ((p_of (f_cost I A L (g_bare mk (nI s) ||| pl)) (g_bare mk (nI s) ||| pl)) < cmp)) (fun zk102 => ?_) ?_
      · skip
        refine a_lload q69_90 rfl ?_
        refine a_lload_n (i := 2) q69_92 rfl rfl ?_
        refine a_lcmp q69_93 ?_
        refine a_if_ge (tgt := 101) q69_94 (by decide) (fun zc94 => ?_) (fun zc94 => ?_)
        · skip
          refine a_iconst (v := 0) q69_101 (by decide) ?_
          exact cutv zk102 (by first | exact (b2i_f (p := (p_of (f_cost I A L (g_bare mk (nI s) ||| pl)) (g_bare mk (nI s) ||| pl)) < cmp) (fun h => absurd ((lg_cmp_ge _ _).mp zc94) (Int64.not_le.mpr h))) | exact (b2i_t (p := (p_of (f_cost I A L (g_bare mk (nI s) ||| pl)) (g_bare mk (nI s) ||| pl)) < cmp) (Int64.not_le.mp (fun h => zc94 ((lg_cmp_ge _ _).mpr h)))))
        · skip
          refine a_iconst (v := 1) q69_97 (by decide) ?_
          refine a_goto (tgt := 102) q69_98 (by decide) ?_
          exact cutv zk102 (by first | exact (b2i_f (p := (p_of (f_cost I A L (g_bare mk (nI s) ||| pl)) (g_bare mk (nI s) ||| pl)) < cmp) (fun h => absurd ((lg_cmp_ge _ _).mp zc94) (Int64.not_le.mpr h))) | exact (b2i_t (p := (p_of (f_cost I A L (g_bare mk (nI s) ||| pl)) (g_bare mk (nI s) ||| pl)) < cmp) (Int64.not_le.mp (fun h => zc94 ((lg_cmp_ge _ _).mpr h)))))
      refine a_iadd q69_102 ?_
      refine a_putfield q69_103 rfl rfl rfl rfl ?_
      refine AW.hp (h' := hpT I A L O (t.1, t.2.1 + 1, t.2.2 + b2i ((p_of (f_cost I A L (g_bare mk (nI s) ||| pl)) (g_bare mk (nI s) ||| pl)) < cmp))) rfl ?_
      refine a_aload_n (i := 0) q69_106 rfl rfl ?_
      refine a_getfield q69_107 rfl rfl ?_
      refine a_lload q69_110 rfl ?_
      refine a_cv1 q69_112 rfl rfl ⟨rfl, rfl⟩ rfl ?_
      refine c_X0_offer_2T (t := (t.1, t.2.1 + 1, t.2.2 + b2i ((p_of (f_cost I A L (g_bare mk (nI s) ||| pl)) (g_bare mk (nI s) ||| pl)) < cmp))) hb ?_
      refine ck_v ?_
      refine a_iinc (v := nI (s + 1)) (lv' := [(0, _), (1, _), (2, _), (4, _), (5, _), (6, _), (7, _), (8, _), (9, _), (10, _)]) q69_115 rfl rfl (nI_1 (s)) rfl ?_
      refine a_goto (tgt := 30) q69_118 (by decide) ?_
      refine AW.pop_less (x := (10, _)) (lv' := [(0, _), (1, _), (2, _), (4, _), (5, _), (6, _), (7, _), (8, _), (9, _)]) ?_
      refine AW.pop_less (x := (9, _)) (lv' := [(0, _), (1, _), (2, _), (4, _), (5, _), (6, _), (7, _), (8, _)]) ?_
      have ze : tAgg (f_fb I A) (f_cost I A L) cmp pl mk s t = (offerB t.1 (p_of (f_cost I A L (g_bare mk (nI s) ||| pl)) (g_bare mk (nI s) ||| pl)), t.2.1 + 1, t.2.2 + b2i ((p_of (f_cost I A L (g_bare mk (nI s) ||| pl)) (g_bare mk (nI s) ||| pl)) < cmp)) := if_pos zc56
      rw [fl, ze] at hk
      exact ih (t := _) (offerB_le hb) (show s + 1 + m = 3 by omega) hk

theorem l_tmark (m : Nat) : ∀ {X : XS} {I : Nat → Int32} {A : Nat → Nat → Int32} {L : Nat → Nat → Int64} {O : AH} {Q : AO → AH → Prop} {t : TT} {pl : Int32} {cmp : Int64} {s : Nat} (hb : t.1.1 ≤ 5) (hm : s + m = 3) (hq : Q (.inl none) (hpT I A L O (fl (tMark (f_fb I A) (f_cost I A L) cmp pl) m s t))), AW X 69 13 [(0, .ref 16), (1, .int pl), (2, .long cmp), (4, .ref 1000), (5, .int 3), (6, .int (nI s))] [] (hpT I A L O t) 0 0 Q := by
  induction m with
  | zero =>
    intro X I A L O Q t pl cmp s hb hm hq
    refine a_iload q69_13 rfl ?_
    refine a_iload q69_15 rfl ?_
    refine a_icmp_ge (tgt := 127) q69_17 (by decide) (fun zc17 => ?_) (fun zc17 => absurd (nI_le (show 3 ≤ s by omega) (by omega)) zc17)
    refine a_return q69_127 rfl ?_
    exact hq
  | succ m ih =>
    intro X I A L O Q t pl cmp s hb hm hq
    refine a_iload q69_13 rfl ?_
    refine a_iload q69_15 rfl ?_
    refine a_icmp_ge (tgt := 127) q69_17 (by decide) (fun zc17 => absurd zc17 (nI_ge (show s < 3 by omega) (by decide))) (fun zc17 => ?_)
    refine a_aload q69_20 rfl ?_
    refine a_iload q69_22 rfl ?_
    refine a_cald_ro q69_24 (nI_vp (by omega) (by decide)) ?_
    refine AW.ti (show _ = ro_m s by rw [nI_cl (n := 3) (by omega) (by decide)]) ?_
    refine a_istore (i := 7) (lv' := [(0, _), (1, _), (2, _), (4, _), (5, _), (6, _), (7, _)]) q69_25 rfl rfl ?_
    refine a_iconst (v := 0) q69_27 (by decide) ?_
    refine a_istore (i := 8) (lv' := [(0, _), (1, _), (2, _), (4, _), (5, _), (6, _), (7, _), (8, _)]) q69_28 rfl rfl ?_
    refine l_tagg 3 (s := 0) hb rfl ?_
    refine a_iinc (v := nI (s + 1)) (lv' := [(0, _), (1, _), (2, _), (4, _), (5, _), (6, _)]) q69_121 rfl rfl (nI_1 (s)) rfl ?_
    refine a_goto (tgt := 13) q69_124 (by decide) ?_
    exact ih (tMark_le _ _ _ _ hb) (show s + 1 + m = 3 by omega) hq

theorem c_X8_tryPlacement {X : XS} {I : Nat → Int32} {A : Nat → Nat → Int32} {L : Nat → Nat → Int64} {O : AH} {Q : AO → AH → Prop} {t : TT} {pl : Int32} {cmp : Int64} (hb : t.1.1 ≤ 5) (hq : Q (.inl none) (hpT I A L O (tTry (f_fb I A) (f_cost I A L) cmp pl t))) : Call X 69 [.ref 16, .int pl, .long cmp] (hpT I A L O t) Q := by
  refine call_of (by decide) rfl rfl ?_
  refine a_getstatic q69_0 ?_
  refine a_astore (i := 4) (lv' := [(0, _), (1, _), (2, _), (4, _)]) q69_3 rfl rfl ?_
  refine a_aload q69_5 rfl ?_
  refine a_alen_ro (j := 0) q69_7 rfl (by decide) rfl ?_
  refine a_istore (i := 5) (lv' := [(0, _), (1, _), (2, _), (4, _), (5, _)]) q69_8 rfl rfl ?_
  refine a_iconst (v := 0) q69_10 (by decide) ?_
  refine a_istore (i := 6) (lv' := [(0, _), (1, _), (2, _), (4, _), (5, _), (6, _)]) q69_11 rfl rfl ?_
  exact l_tmark 3 (s := 0) hb rfl hq

theorem l_tone (m : Nat) : ∀ {X : XS} {I : Nat → Int32} {A : Nat → Nat → Int32} {L : Nat → Nat → Int64} {O : AH} {Q : AO → AH → Prop} {t : TT} {cmp : Int64} {s : Nat} (hb : t.1.1 ≤ 5) (hm : s + m = 1045) (hq : Q (.inl none) (hpT I A L O (fl (tOne (f_fb I A) (f_cost I A L) (f_dull A) cmp (A 18)) m s t))), AW X 68 29 [(0, .ref 16), (1, .long cmp), (3, .ref 19), (4, .int 1045), (5, .int (nI s))] [] (hpT I A L O t) 0 0 Q := by
  induction m with
  | zero =>
    intro X I A L O Q t cmp s hb hm hq
    refine a_iload q68_29 rfl ?_
    refine a_iload q68_31 rfl ?_
    refine a_icmp_ge (tgt := 67) q68_33 (by decide) (fun zc33 => ?_) (fun zc33 => absurd (nI_le (show 1045 ≤ s by omega) (by omega)) zc33)
    refine a_return q68_67 rfl ?_
    exact hq
  | succ m ih =>
    intro X I A L O Q t cmp s hb hm hq
    refine a_iload q68_29 rfl ?_
    refine a_iload q68_31 rfl ?_
    refine a_icmp_ge (tgt := 67) q68_33 (by decide) (fun zc33 => absurd zc33 (nI_ge (show s < 1045 by omega) (by decide))) (fun zc33 => ?_)
    refine a_aload_n (i := 3) q68_36 rfl rfl ?_
    refine a_iload q68_37 rfl ?_
    refine a_iald' q68_39 rfl (j := s) rfl (by omega) (by decide) ?_
    refine a_istore (i := 6) (lv' := [(0, _), (1, _), (3, _), (4, _), (5, _), (6, _)]) q68_40 rfl rfl ?_
    refine a_aload_n (i := 0) q68_42 rfl rfl ?_
    refine a_getfield q68_43 rfl rfl ?_
    refine a_iload q68_46 rfl ?_
    refine a_cv1 q68_48 rfl rfl ⟨rfl, rfl⟩ rfl ?_
    refine c_X3_dull_2 ?_
    refine ck_r ?_
    refine a_if_ne (tgt := 61) q68_51 (by decide) (fun zc51 => ?_) (fun zc51 => ?_)
    · skip
      refine a_iinc (v := nI (s + 1)) (lv' := [(0, _), (1, _), (3, _), (4, _), (5, _), (6, _)]) q68_61 rfl rfl (nI_1 (s)) rfl ?_
      refine a_goto (tgt := 29) q68_64 (by decide) ?_
      refine AW.pop_less (x := (6, _)) (lv' := [(0, _), (1, _), (3, _), (4, _), (5, _)]) ?_
      have ze : tOne (f_fb I A) (f_cost I A L) (f_dull A) cmp (A 18) s t = t := if_pos (b2i_nz.mp zc51)
      rw [fl, ze] at hq
      exact ih hb (show s + 1 + m = 1045 by omega) hq
    · skip
      refine a_aload_n (i := 0) q68_54 rfl rfl ?_
      refine a_iload q68_55 rfl ?_
      refine a_lload_n (i := 1) q68_57 rfl rfl ?_
      refine a_cv2 q68_58 rfl rfl ⟨rfl, rfl⟩ rfl ?_
      refine c_X8_tryPlacement hb ?_
      refine ck_v ?_
      refine a_iinc (v := nI (s + 1)) (lv' := [(0, _), (1, _), (3, _), (4, _), (5, _), (6, _)]) q68_61 rfl rfl (nI_1 (s)) rfl ?_
      refine a_goto (tgt := 29) q68_64 (by decide) ?_
      refine AW.pop_less (x := (6, _)) (lv' := [(0, _), (1, _), (3, _), (4, _), (5, _)]) ?_
      have ze : tOne (f_fb I A) (f_cost I A L) (f_dull A) cmp (A 18) s t = tTry (f_fb I A) (f_cost I A L) cmp (A 18 s) t := if_neg (b2i_z.mp zc51)
      rw [fl, ze] at hq
      exact ih (tTry_le _ _ _ hb) (show s + 1 + m = 1045 by omega) hq

def tAll (I : Nat → Int32) (A : Nat → Nat → Int32) (L : Nat → Nat → Int64) (cmp : Int64) : TT := fl (tOne (f_fb I A) (f_cost I A L) (f_dull A) cmp (A 18)) 1045 0 ((0, L 17), 0, 0)
theorem c_X8_tryAll {X : XS} {I : Nat → Int32} {A : Nat → Nat → Int32} {L : Nat → Nat → Int64} {O : AH} {Q : AO → AH → Prop} {cmp : Int64} (hq : Q (.inl none) (hpT I A L O (tAll I A L cmp))) : Call X 68 [.ref 16, .long cmp] (hp I A L O) Q := by
  refine call_of (by decide) rfl rfl ?_
  refine a_aload_n (i := 0) q68_0 rfl rfl ?_
  refine a_getfield q68_1 rfl rfl ?_
  refine a_cv0 q68_4 rfl rfl ⟨rfl, rfl⟩ rfl ?_
  refine c_X0_clear_2 ?_
  refine ck_v ?_
  refine a_aload_n (i := 0) q68_7 rfl rfl ?_
  refine a_iconst (v := 0) q68_8 (by decide) ?_
  refine a_putfield q68_9 rfl rfl rfl rfl ?_
  refine AW.hp (h' := hp (va_up (va_up I 10 0) 8 0) A L O) rfl ?_
  refine a_aload_n (i := 0) q68_12 rfl rfl ?_
  refine a_iconst (v := 0) q68_13 (by decide) ?_
  refine a_putfield q68_14 rfl rfl rfl rfl ?_
  refine AW.hp (h' := hpT I A L O ((0, L 17), 0, 0)) rfl ?_
  refine a_aload_n (i := 0) q68_17 rfl rfl ?_
  refine a_getfield q68_18 rfl rfl ?_
  refine a_astore_n (i := 3) (lv' := [(0, _), (1, _), (3, _)]) q68_21 rfl rfl rfl ?_
  refine a_aload_n (i := 3) q68_22 rfl rfl ?_
  refine a_alen (v := 1045) q68_23 rfl (by decide) rfl ?_
  refine a_istore (i := 4) (lv' := [(0, _), (1, _), (3, _), (4, _)]) q68_24 rfl rfl ?_
  refine a_iconst (v := 0) q68_26 (by decide) ?_
  refine a_istore (i := 5) (lv' := [(0, _), (1, _), (3, _), (4, _), (5, _)]) q68_27 rfl rfl ?_
  unfold tAll at hq
  exact l_tone (I := I) (L := L) (t := ((0, L 17), 0, 0)) 1045 (s := 0) (Nat.zero_le 5) (Nat.zero_add 1045) hq

theorem c_X8_run {X : XS} {I : Nat → Int32} {A : Nat → Nat → Int32} {L : Nat → Nat → Int64} {O : AH} {Q : AO → AH → Prop}  (hq : Q (.inl none) (hpT I A L O (tAll I A L 0))) : Call X 67 [.ref 16] (hp I A L O) Q := by
  refine call_of (by decide) rfl rfl ?_
  refine a_aload_n (i := 0) q67_0 rfl rfl ?_
  refine a_lconst (v := 0) q67_1 (by decide) ?_
  refine a_cv1 q67_2 rfl rfl ⟨rfl, rfl⟩ rfl ?_
  refine c_X8_tryAll ?_
  refine ck_v ?_
  refine a_return q67_5 rfl ?_
  exact hq

theorem c_X8_ranking {X : XS} {I : Nat → Int32} {A : Nat → Nat → Int32} {L : Nat → Nat → Int64} {O : AH} {Q : AO → AH → Prop}  (hq : Q (.inl (some (.ref 17))) (hp I A L O)) : Call X 65 [.ref 16] (hp I A L O) Q := by
  refine call_of (by decide) rfl rfl ?_
  refine a_aload_n (i := 0) q65_0 rfl rfl ?_
  refine a_getfield q65_1 rfl rfl ?_
  refine a_areturn q65_4 ⟨_, rfl, Or.inl ⟨_, rfl⟩⟩ ?_
  exact hq

theorem c_X8_allowedCount {X : XS} {I : Nat → Int32} {A : Nat → Nat → Int32} {L : Nat → Nat → Int64} {O : AH} {Q : AO → AH → Prop}  (hq : Q (.inl (some (.int (I 8)))) (hp I A L O)) : Call X 66 [.ref 16] (hp I A L O) Q := by
  refine call_of (by decide) rfl rfl ?_
  refine a_aload_n (i := 0) q66_0 rfl rfl ?_
  refine a_getfield q66_1 rfl rfl ?_
  refine a_ireturn q66_4 (nr_int rfl _) ?_
  exact hq

def g_wish (w c : Int32) (z : Int32) : Int32 := if z = 0 then w &&& (((1 : Int32) <<< (c &&& 31)) ^^^ (-1)) else w ||| ((1 : Int32) <<< (c &&& 31))
theorem g_wish_z {w c z : Int32} (h : z = 0) : w &&& (((1 : Int32) <<< (c &&& 31)) ^^^ (-1)) = g_wish w c z := (if_pos h).symm
theorem g_wish_nz {w c z : Int32} (h : ¬ z = 0) : w ||| ((1 : Int32) <<< (c &&& 31)) = g_wish w c z := (if_neg h).symm
theorem c_X3_wishColumn {X : XS} {I : Nat → Int32} {A : Nat → Nat → Int32} {L : Nat → Nat → Int64} {O : AH} {Q : AO → AH → Prop} {c z : Int32} (hq : Q (.inl (some (.int (g_bc (g_wish (I 3) c z))))) (hp (va_up I 3 (g_wish (I 3) c z)) A L O)) : Call X 24 [.ref 10, .int c, .int z] (hp I A L O) Q := by
  refine call_of (by decide) rfl rfl ?_
  refine a_iconst (v := 1) q24_0 (by decide) ?_
  refine a_iload_n (i := 1) q24_1 rfl rfl ?_
  refine a_ishl q24_2 ?_
  refine a_istore_n (i := 3) (lv' := [(0, _), (1, _), (2, _), (3, _)]) q24_3 rfl rfl rfl ?_
  refine a_aload_n (i := 0) q24_4 rfl rfl ?_
  refine a_iload_n (i := 2) q24_5 rfl rfl ?_
  refine a_if_eq (tgt := 18) q24_6 (by decide) (fun zc6 => ?_) (fun zc6 => ?_)
  · skip
    refine a_aload_n (i := 0) q24_18 rfl rfl ?_
    refine a_getfield q24_19 rfl rfl ?_
    refine a_iload_n (i := 3) q24_22 rfl rfl ?_
    refine a_iconst (v := (-1)) q24_23 (by decide) ?_
    refine a_ixor q24_24 ?_
    refine a_iand q24_25 ?_
    refine AW.ti (g_wish_z zc6) ?_
    refine a_putfield q24_26 rfl rfl rfl rfl ?_
    refine AW.hp (h' := hp (va_up I 3 (g_wish (I 3) c z)) A L O) rfl ?_
    refine a_aload_n (i := 0) q24_29 rfl rfl ?_
    refine a_getfield q24_30 rfl rfl ?_
    refine a_cs1 q24_33 rfl ⟨rfl, rfl⟩ rfl ?_
    refine c_J6_bitCount_0f7a4 ?_
    refine ck_r ?_
    refine a_ireturn q24_36 (nr_int rfl _) ?_
    exact hq
  · skip
    refine a_aload_n (i := 0) q24_9 rfl rfl ?_
    refine a_getfield q24_10 rfl rfl ?_
    refine a_iload_n (i := 3) q24_13 rfl rfl ?_
    refine a_ior q24_14 ?_
    refine a_goto (tgt := 26) q24_15 (by decide) ?_
    refine AW.ti (g_wish_nz zc6) ?_
    refine a_putfield q24_26 rfl rfl rfl rfl ?_
    refine AW.hp (h' := hp (va_up I 3 (g_wish (I 3) c z)) A L O) rfl ?_
    refine a_aload_n (i := 0) q24_29 rfl rfl ?_
    refine a_getfield q24_30 rfl rfl ?_
    refine a_cs1 q24_33 rfl ⟨rfl, rfl⟩ rfl ?_
    refine c_J6_bitCount_0f7a4 ?_
    refine ck_r ?_
    refine a_ireturn q24_36 (nr_int rfl _) ?_
    exact hq

theorem c_X3_exchangeWishedMark {X : XS} {I : Nat → Int32} {A : Nat → Nat → Int32} {L : Nat → Nat → Int64} {O : AH} {Q : AO → AH → Prop} {m : Int32} (hm : narrow .char (.int m) = .int m) (hf : fits .char (.int m) = true) (hn4 : narrow .char (.int (I 4)) = .int (I 4)) (hq : Q (.inl (some (.int (I 4)))) (hp (va_up I 4 m) A L O)) : Call X 25 [.ref 10, .int m] (hp I A L O) Q := by
  refine call_of (by decide) rfl rfl ?_
  refine a_aload_n (i := 0) q25_0 rfl rfl ?_
  refine a_getfield q25_1 rfl rfl ?_
  refine a_istore_n (i := 2) (lv' := [(0, _), (1, _), (2, _)]) q25_4 rfl rfl rfl ?_
  refine a_aload_n (i := 0) q25_5 rfl rfl ?_
  refine a_iload_n (i := 1) q25_6 rfl rfl ?_
  refine a_putfield q25_7 rfl hm hf rfl ?_
  refine AW.hp (h' := hp (va_up I 4 m) A L O) rfl ?_
  refine a_iload_n (i := 2) q25_10 rfl rfl ?_
  refine a_ireturn q25_11 (nr_char rfl hn4) ?_
  exact hq

def g_turn (f c k : Int32) : Int32 := f ^^^ ((1 : Int32) <<< ((c * 4 + k) &&& 31))
theorem c_X3_turnForbidden {X : XS} {I : Nat → Int32} {A : Nat → Nat → Int32} {L : Nat → Nat → Int64} {O : AH} {Q : AO → AH → Prop} {c k : Int32} (hq : Q (.inl (some (.int (g_bc (g_turn (I 5) c k))))) (hp (va_up I 5 (g_turn (I 5) c k)) A L O)) : Call X 27 [.ref 10, .int c, .int k] (hp I A L O) Q := by
  refine call_of (by decide) rfl rfl ?_
  refine a_aload_n (i := 0) q27_0 rfl rfl ?_
  refine a_dup q27_1 rfl ?_
  refine a_getfield q27_2 rfl rfl ?_
  refine a_iconst (v := 1) q27_5 (by decide) ?_
  refine a_iload_n (i := 1) q27_6 rfl rfl ?_
  refine a_iconst (v := 4) q27_7 (by decide) ?_
  refine a_imul q27_8 ?_
  refine a_iload_n (i := 2) q27_9 rfl rfl ?_
  refine a_iadd q27_10 ?_
  refine a_ishl q27_11 ?_
  refine a_ixor q27_12 ?_
  refine a_putfield q27_13 rfl rfl rfl rfl ?_
  refine AW.hp (h' := hp (va_up I 5 (g_turn (I 5) c k)) A L O) rfl ?_
  refine a_aload_n (i := 0) q27_16 rfl rfl ?_
  refine a_getfield q27_17 rfl rfl ?_
  refine a_cs1 q27_20 rfl ⟨rfl, rfl⟩ rfl ?_
  refine c_J6_bitCount_0f7a4 ?_
  refine ck_r ?_
  refine a_ireturn q27_23 (nr_int rfl _) ?_
  exact hq

abbrev isRule (r : Int32) : Prop := 0 ≤ r ∧ r < 8
theorem c_X2_hasRule {X : XS} {I : Nat → Int32} {A : Nat → Nat → Int32} {L : Nat → Nat → Int64} {O : AH} {Q : AO → AH → Prop} {r : Int32} (hq : Q (.inl (some (.int (b2i (isRule r))))) (hp I A L O)) : Call X 17 [.ref 11, .int r] (hp I A L O) Q := by
  refine call_of (by decide) rfl rfl ?_
  refine a_iload_n (i := 1) q17_0 rfl rfl ?_
  refine a_if_lt (tgt := 17) q17_1 (by decide) (fun zc1 => ?_) (fun zc1 => ?_)
  · skip
    refine a_iconst (v := 0) q17_17 (by decide) ?_
    refine a_ireturn q17_18 (nr_bool rfl (by decide)) ?_
    exact lfi hq (by have zl := lits; unfold b2i; split <;> (simp only [isRule, i_lt, i_le, i_eq] at * <;> omega))
  · skip
    refine a_iload_n (i := 1) q17_4 rfl rfl ?_
    refine a_aload_n (i := 0) q17_5 rfl rfl ?_
    refine a_getfield q17_6 rfl rfl ?_
    refine a_alen (v := 8) q17_9 rfl (by decide) rfl ?_
    refine a_icmp_ge (tgt := 17) q17_10 (by decide) (fun zc10 => ?_) (fun zc10 => ?_)
    · skip
      refine a_iconst (v := 0) q17_17 (by decide) ?_
      refine a_ireturn q17_18 (nr_bool rfl (by decide)) ?_
      exact lfi hq (by have zl := lits; unfold b2i; split <;> (simp only [isRule, i_lt, i_le, i_eq] at * <;> omega))
    · skip
      refine a_iconst (v := 1) q17_13 (by decide) ?_
      refine a_goto (tgt := 18) q17_14 (by decide) ?_
      refine a_ireturn q17_18 (nr_bool rfl (by decide)) ?_
      exact lfi hq (by have zl := lits; unfold b2i; split <;> (simp only [isRule, i_lt, i_le, i_eq] at * <;> omega))

theorem c_X2_exchangeWeight {X : XS} {I : Nat → Int32} {A : Nat → Nat → Int32} {L : Nat → Nat → Int64} {O : AH} {Q : AO → AH → Prop} {j : Nat} {w : Int32} (hj : j < 8) (hq : Q (.inl (some (.int (A 11 j)))) (hp I (va_up A 11 (upd (A 11) j w)) L O)) : Call X 18 [.ref 11, .int (nI j), .int w] (hp I A L O) Q := by
  refine call_of (by decide) rfl rfl ?_
  refine a_aload_n (i := 0) q18_0 rfl rfl ?_
  refine a_iload_n (i := 1) q18_1 rfl rfl ?_
  refine a_cv1 q18_2 rfl rfl ⟨rfl, rfl⟩ rfl ?_
  refine c_X2_hasRule ?_
  refine ck_r ?_
  refine a_if_ne (tgt := 10) q18_5 (by decide) (fun zc5 => ?_) (fun zc5 => absurd zc5 (b2i_nz.mpr ⟨nI_pos' (by omega), nI_lt hj (by decide)⟩))
  refine a_aload_n (i := 0) q18_10 rfl rfl ?_
  refine a_getfield q18_11 rfl rfl ?_
  refine a_iload_n (i := 1) q18_14 rfl rfl ?_
  refine a_iald' q18_15 rfl (j := j) rfl hj (by decide) ?_
  refine a_istore_n (i := 3) (lv' := [(0, _), (1, _), (2, _), (3, _)]) q18_16 rfl rfl rfl ?_
  refine a_aload_n (i := 0) q18_17 rfl rfl ?_
  refine a_getfield q18_18 rfl rfl ?_
  refine a_iload_n (i := 1) q18_21 rfl rfl ?_
  refine a_iload_n (i := 2) q18_22 rfl rfl ?_
  refine a_iast' q18_23 rfl (j := j) rfl hj (by decide) (h' := hp I (va_up A 11 (upd (A 11) j w)) L O) rfl ?_
  refine a_iload_n (i := 3) q18_24 rfl rfl ?_
  refine a_ireturn q18_25 (nr_int rfl _) ?_
  exact hq
