/-! trial, picks, setters -/
abbrev TT := BT × Int32 × Int32
section PURE2
variable (fb co : Int32 → Int32)
def tStep (cmp : Int64) (ch : Int32) (t : TT) : TT := if fb ch = 0 then (offerB t.1 (p_of (co ch) ch), t.2.1 + 1, t.2.2 + b2i (p_of (co ch) ch < cmp)) else t
def tAgg (cmp : Int64) (pl mk : Int32) (s : Nat) (t : TT) : TT := tStep fb co cmp (g_bare mk (nI s) ||| pl) t
def tMark (cmp : Int64) (pl : Int32) (s : Nat) (t : TT) : TT := fl (tAgg fb co cmp pl (ro_m s)) 3 0 t
def tTry (cmp : Int64) (pl : Int32) (t : TT) : TT := fl (tMark fb co cmp pl) 3 0 t
def tOne (dull : Int32 → Prop) [DecidablePred dull] (cmp : Int64) (f : Nat → Int32) (s : Nat) (t : TT) : TT := if dull (f s) then t else tTry fb co cmp (f s) t
variable {fb co}
theorem tStep_le (cmp : Int64) (c : Int32) (t : TT) (h : t.1.1 ≤ 5) : (tStep fb co cmp c t).1.1 ≤ 5 := by
  unfold tStep; split
  · exact offerB_le h
  · exact h
theorem tMark_le (cmp : Int64) (pl : Int32) (s : Nat) (t : TT) (h : t.1.1 ≤ 5) : (tMark fb co cmp pl s t).1.1 ≤ 5 := fl_inv (I := fun t : TT => t.1.1 ≤ 5) (fun _ _ => tStep_le _ _ _) _ _ _ h
theorem tTry_le (cmp : Int64) (pl : Int32) (t : TT) (h : t.1.1 ≤ 5) : (tTry fb co cmp pl t).1.1 ≤ 5 := fl_inv (I := fun t : TT => t.1.1 ≤ 5) (fun _ _ => tMark_le _ _ _ _) _ _ _ h
end PURE2
abbrev hpT (I : Nat → Int32) (A : Nat → Nat → Int32) (L : Nat → Nat → Int64) (O : Nat → UInt64) (t : TT) : AH := hp (va_up (va_up (va_up I 10 (nI t.1.1)) 8 t.2.1) 9 t.2.2) A (va_up L 17 t.1.2) O

theorem c_X3_firstBroken_2 {X : XS} {I : Nat → Int32} {A : Nat → Nat → Int32} {L : Nat → Nat → Int64} {O : Nat → UInt64} {Q : AO → AH → Prop} {t : TT} {c : Int32} (hq : Q (.inl (some (.int (f_fb I A c)))) (hpT I A L O t)) : Call X 31 [.ref 9, .int c] (hpT I A L O t) Q := c_X3_firstBroken (lfi hq rfl)
theorem c_X2_costOf_2 {X : XS} {I : Nat → Int32} {A : Nat → Nat → Int32} {L : Nat → Nat → Int64} {O : Nat → UInt64} {Q : AO → AH → Prop} {t : TT} {c : Int32} (hq : Q (.inl (some (.int (f_cost I A L c)))) (hpT I A L O t)) : Call X 21 [.ref 10, .int c] (hpT I A L O t) Q := c_X2_costOf (lfi hq rfl)
theorem c_X3_dull_2 {X : XS} {I : Nat → Int32} {A : Nat → Nat → Int32} {L : Nat → Nat → Int64} {O : Nat → UInt64} {Q : AO → AH → Prop} {t : TT} {c : Int32} (hq : Q (.inl (some (.int (b2i (f_dull A c))))) (hpT I A L O t)) : Call X 32 [.ref 9, .int c] (hpT I A L O t) Q := c_X3_hasDullColumn hq
theorem c_X0_offer_2T {X : XS} {I : Nat → Int32} {A : Nat → Nat → Int32} {L : Nat → Nat → Int64} {O : Nat → UInt64} {Q : AO → AH → Prop} {t : TT} {p : Int64} (hb : t.1.1 ≤ 5) (hq : Q (.inl none) (hpT I A L O (offerB t.1 p, t.2.1, t.2.2))) : Call X 7 [.ref 16, .long p] (hpT I A L O t) Q := by
  refine c_X0_offer_2 (k := t.1.1) rfl hb (fun h => ?_) (fun h hk => ?_) (fun h hk => ?_)
  · have e : offerB t.1 p = t.1 := if_pos h
    rw [e] at hq; exact hq
  · have e : offerB t.1 p = (t.1.1 + 1, offA t.1.2 p t.1.1) := (if_neg h).trans (if_pos hk)
    rw [e] at hq; exact lfh hq rfl
  · have e : offerB t.1 p = (t.1.1, offA t.1.2 p 4) := (if_neg h).trans (if_neg (by omega))
    rw [e] at hq; exact lfh hq rfl
theorem l_tagg (m : Nat) : ∀ {X : XS} {I : Nat → Int32} {A : Nat → Nat → Int32} {L : Nat → Nat → Int64} {O : Nat → UInt64} {Q : AO → AH → Prop} {t : TT} {pl mk : Int32} {cmp : Int64} {i s : Nat} (hb : t.1.1 ≤ 5) (hm : s + m = 3) (hk : AW X 79 121 [(0, .ref 15), (1, .int pl), (2, .long cmp), (4, .ref 1000), (5, .int 3), (6, .int (nI i))] [] (hpT I A L O (fl (tAgg (f_fb I A) (f_cost I A L) cmp pl mk) m s t)) 0 0 Q), AW X 79 30 [(0, .ref 15), (1, .int pl), (2, .long cmp), (4, .ref 1000), (5, .int 3), (6, .int (nI i)), (7, .int mk), (8, .int (nI s))] [] (hpT I A L O t) 0 0 Q := by
  induction m with
  | zero =>
    intro X I A L O Q t pl mk cmp i s hb hm hk
    refine a_iload q79_30 rfl ?_
    refine a_iconst (v := 2) q79_32 (by decide) ?_
    refine a_icmp_gt (tgt := 121) q79_33 (by decide) (fun zc33 => ?_) (fun zc33 => absurd (nI_lt (show 2 < s by omega) (by omega)) zc33)
    refine AW.pop_less (x := (8, _)) (lv' := [(0, _), (1, _), (2, _), (4, _), (5, _), (6, _), (7, _)]) ?_
    refine AW.pop_less (x := (7, _)) (lv' := [(0, _), (1, _), (2, _), (4, _), (5, _), (6, _)]) ?_
    exact hk
  | succ m ih =>
    intro X I A L O Q t pl mk cmp i s hb hm hk
    refine a_iload q79_30 rfl ?_
    refine a_iconst (v := 2) q79_32 (by decide) ?_
    refine a_icmp_gt (tgt := 121) q79_33 (by decide) (fun zc33 => absurd zc33 (nI_nlt (show s ≤ 2 by omega) (by decide))) (fun zc33 => ?_)
    refine a_iload q79_36 rfl ?_
    refine a_iload q79_38 rfl ?_
    refine a_cs2 q79_40 rfl ⟨rfl, rfl⟩ rfl ?_
    refine c_X1_bare ?_
    refine ck_r ?_
    refine a_iload_n (i := 1) q79_43 rfl rfl ?_
    refine a_ior q79_44 ?_
    refine a_istore (i := 9) (lv' := [(0, _), (1, _), (2, _), (4, _), (5, _), (6, _), (7, _), (8, _), (9, _)]) q79_45 rfl rfl ?_
    refine a_aload_n (i := 0) q79_47 rfl rfl ?_
    refine a_getfield q79_48 rfl rfl ?_
    refine a_iload q79_51 rfl ?_
    refine a_cv1 q79_53 rfl rfl ⟨rfl, rfl⟩ rfl ?_
    refine c_X3_firstBroken_2 ?_
    refine ck_r ?_
    refine a_if_ne (tgt := 115) q79_56 (by decide) (fun zc56 => ?_) (fun zc56 => ?_)
    · skip
      refine a_iinc (v := nI (s + 1)) (lv' := [(0, _), (1, _), (2, _), (4, _), (5, _), (6, _), (7, _), (8, _), (9, _)]) q79_115 rfl rfl (nI_1 (s)) rfl ?_
      refine a_goto (tgt := 30) q79_118 (by decide) ?_
      refine AW.pop_less (x := (9, _)) (lv' := [(0, _), (1, _), (2, _), (4, _), (5, _), (6, _), (7, _), (8, _)]) ?_
      have ze : tAgg (f_fb I A) (f_cost I A L) cmp pl mk s t = t := if_neg zc56
      rw [fl, ze] at hk
      exact ih (t := _) hb (show s + 1 + m = 3 by omega) hk
    · skip
      refine a_aload_n (i := 0) q79_59 rfl rfl ?_
      refine a_getfield q79_60 rfl rfl ?_
      refine a_iload q79_63 rfl ?_
      refine a_cv1 q79_65 rfl rfl ⟨rfl, rfl⟩ rfl ?_
      refine c_X2_costOf_2 ?_
      refine ck_r ?_
      refine a_iload q79_68 rfl ?_
      refine a_cs2 q79_70 rfl ⟨rfl, rfl⟩ rfl ?_
      refine c_X5_of ?_
      refine ck_r ?_
      refine a_lstore (i := 10) (lv' := [(0, _), (1, _), (2, _), (4, _), (5, _), (6, _), (7, _), (8, _), (9, _), (10, _)]) q79_73 rfl rfl ?_
      refine a_aload_n (i := 0) q79_75 rfl rfl ?_
      refine a_dup q79_76 rfl ?_
      refine a_getfield q79_77 rfl rfl ?_
      refine a_iconst (v := 1) q79_80 (by decide) ?_
      refine a_iadd q79_81 ?_
      refine a_putfield q79_82 rfl rfl rfl rfl ?_
      refine AW.hp (h' := hpT I A L O (t.1, t.2.1 + 1, t.2.2)) rfl ?_
      refine a_aload_n (i := 0) q79_85 rfl rfl ?_
      refine a_dup q79_86 rfl ?_
      refine a_getfield q79_87 rfl rfl ?_
      refine AW.cut 102 (b2i ((p_of (f_cost I A L (g_bare mk (nI s) ||| pl)) (g_bare mk (nI s) ||| pl)) < cmp)) (fun zk102 => ?_) ?_
      · skip
        refine a_lload q79_90 rfl ?_
        refine a_lload_n (i := 2) q79_92 rfl rfl ?_
        refine a_lcmp q79_93 ?_
        refine a_if_ge (tgt := 101) q79_94 (by decide) (fun zc94 => ?_) (fun zc94 => ?_)
        · skip
          refine a_iconst (v := 0) q79_101 (by decide) ?_
          exact cutv zk102 (by first | exact (b2i_f (p := (p_of (f_cost I A L (g_bare mk (nI s) ||| pl)) (g_bare mk (nI s) ||| pl)) < cmp) (fun h => absurd ((lg_cmp_ge _ _).mp zc94) (Int64.not_le.mpr h))) | exact (b2i_t (p := (p_of (f_cost I A L (g_bare mk (nI s) ||| pl)) (g_bare mk (nI s) ||| pl)) < cmp) (Int64.not_le.mp (fun h => zc94 ((lg_cmp_ge _ _).mpr h)))))
        · skip
          refine a_iconst (v := 1) q79_97 (by decide) ?_
          refine a_goto (tgt := 102) q79_98 (by decide) ?_
          exact cutv zk102 (by first | exact (b2i_f (p := (p_of (f_cost I A L (g_bare mk (nI s) ||| pl)) (g_bare mk (nI s) ||| pl)) < cmp) (fun h => absurd ((lg_cmp_ge _ _).mp zc94) (Int64.not_le.mpr h))) | exact (b2i_t (p := (p_of (f_cost I A L (g_bare mk (nI s) ||| pl)) (g_bare mk (nI s) ||| pl)) < cmp) (Int64.not_le.mp (fun h => zc94 ((lg_cmp_ge _ _).mpr h)))))
      refine a_iadd q79_102 ?_
      refine a_putfield q79_103 rfl rfl rfl rfl ?_
      refine AW.hp (h' := hpT I A L O (t.1, t.2.1 + 1, t.2.2 + b2i ((p_of (f_cost I A L (g_bare mk (nI s) ||| pl)) (g_bare mk (nI s) ||| pl)) < cmp))) rfl ?_
      refine a_aload_n (i := 0) q79_106 rfl rfl ?_
      refine a_getfield q79_107 rfl rfl ?_
      refine a_lload q79_110 rfl ?_
      refine a_cv1 q79_112 rfl rfl ⟨rfl, rfl⟩ rfl ?_
      refine c_X0_offer_2T (t := (t.1, t.2.1 + 1, t.2.2 + b2i ((p_of (f_cost I A L (g_bare mk (nI s) ||| pl)) (g_bare mk (nI s) ||| pl)) < cmp))) hb ?_
      refine ck_v ?_
      refine a_iinc (v := nI (s + 1)) (lv' := [(0, _), (1, _), (2, _), (4, _), (5, _), (6, _), (7, _), (8, _), (9, _), (10, _)]) q79_115 rfl rfl (nI_1 (s)) rfl ?_
      refine a_goto (tgt := 30) q79_118 (by decide) ?_
      refine AW.pop_less (x := (10, _)) (lv' := [(0, _), (1, _), (2, _), (4, _), (5, _), (6, _), (7, _), (8, _), (9, _)]) ?_
      refine AW.pop_less (x := (9, _)) (lv' := [(0, _), (1, _), (2, _), (4, _), (5, _), (6, _), (7, _), (8, _)]) ?_
      have ze : tAgg (f_fb I A) (f_cost I A L) cmp pl mk s t = (offerB t.1 (p_of (f_cost I A L (g_bare mk (nI s) ||| pl)) (g_bare mk (nI s) ||| pl)), t.2.1 + 1, t.2.2 + b2i ((p_of (f_cost I A L (g_bare mk (nI s) ||| pl)) (g_bare mk (nI s) ||| pl)) < cmp)) := if_pos zc56
      rw [fl, ze] at hk
      exact ih (t := _) (offerB_le hb) (show s + 1 + m = 3 by omega) hk

theorem l_tmark (m : Nat) : ∀ {X : XS} {I : Nat → Int32} {A : Nat → Nat → Int32} {L : Nat → Nat → Int64} {O : Nat → UInt64} {Q : AO → AH → Prop} {t : TT} {pl : Int32} {cmp : Int64} {s : Nat} (hb : t.1.1 ≤ 5) (hm : s + m = 3) (hq : Q (.inl none) (hpT I A L O (fl (tMark (f_fb I A) (f_cost I A L) cmp pl) m s t))), AW X 79 13 [(0, .ref 15), (1, .int pl), (2, .long cmp), (4, .ref 1000), (5, .int 3), (6, .int (nI s))] [] (hpT I A L O t) 0 0 Q := by
  induction m with
  | zero =>
    intro X I A L O Q t pl cmp s hb hm hq
    refine a_iload q79_13 rfl ?_
    refine a_iload q79_15 rfl ?_
    refine a_icmp_ge (tgt := 127) q79_17 (by decide) (fun zc17 => ?_) (fun zc17 => absurd (nI_le (show 3 ≤ s by omega) (by omega)) zc17)
    refine a_return q79_127 rfl ?_
    exact hq
  | succ m ih =>
    intro X I A L O Q t pl cmp s hb hm hq
    refine a_iload q79_13 rfl ?_
    refine a_iload q79_15 rfl ?_
    refine a_icmp_ge (tgt := 127) q79_17 (by decide) (fun zc17 => absurd zc17 (nI_ge (show s < 3 by omega) (by decide))) (fun zc17 => ?_)
    refine a_aload q79_20 rfl ?_
    refine a_iload q79_22 rfl ?_
    refine a_cald_ro q79_24 (nI_vp (by omega) (by decide)) ?_
    refine AW.ti (show _ = ro_m s by rw [nI_cl (n := 3) (by omega) (by decide)]) ?_
    refine a_istore (i := 7) (lv' := [(0, _), (1, _), (2, _), (4, _), (5, _), (6, _), (7, _)]) q79_25 rfl rfl ?_
    refine a_iconst (v := 0) q79_27 (by decide) ?_
    refine a_istore (i := 8) (lv' := [(0, _), (1, _), (2, _), (4, _), (5, _), (6, _), (7, _), (8, _)]) q79_28 rfl rfl ?_
    refine l_tagg 3 (s := 0) hb rfl ?_
    refine a_iinc (v := nI (s + 1)) (lv' := [(0, _), (1, _), (2, _), (4, _), (5, _), (6, _)]) q79_121 rfl rfl (nI_1 (s)) rfl ?_
    refine a_goto (tgt := 13) q79_124 (by decide) ?_
    exact ih (tMark_le _ _ _ _ hb) (show s + 1 + m = 3 by omega) hq

theorem c_X8_tryPlacement {X : XS} {I : Nat → Int32} {A : Nat → Nat → Int32} {L : Nat → Nat → Int64} {O : Nat → UInt64} {Q : AO → AH → Prop} {t : TT} {pl : Int32} {cmp : Int64} (hb : t.1.1 ≤ 5) (hq : Q (.inl none) (hpT I A L O (tTry (f_fb I A) (f_cost I A L) cmp pl t))) : Call X 79 [.ref 15, .int pl, .long cmp] (hpT I A L O t) Q := by
  refine call_of (by decide) rfl rfl ?_
  refine a_getstatic q79_0 ?_
  refine a_astore (i := 4) (lv' := [(0, _), (1, _), (2, _), (4, _)]) q79_3 rfl rfl ?_
  refine a_aload q79_5 rfl ?_
  refine a_alen_ro (j := 0) q79_7 rfl (by decide) rfl ?_
  refine a_istore (i := 5) (lv' := [(0, _), (1, _), (2, _), (4, _), (5, _)]) q79_8 rfl rfl ?_
  refine a_iconst (v := 0) q79_10 (by decide) ?_
  refine a_istore (i := 6) (lv' := [(0, _), (1, _), (2, _), (4, _), (5, _), (6, _)]) q79_11 rfl rfl ?_
  exact l_tmark 3 (s := 0) hb rfl hq

theorem l_tone (m : Nat) : ∀ {X : XS} {I : Nat → Int32} {A : Nat → Nat → Int32} {L : Nat → Nat → Int64} {O : Nat → UInt64} {Q : AO → AH → Prop} {t : TT} {cmp : Int64} {s : Nat} (hb : t.1.1 ≤ 5) (hm : s + m = 1045) (hq : Q (.inl none) (hpT I A L O (fl (tOne (f_fb I A) (f_cost I A L) (f_dull A) cmp (A 18)) m s t))), AW X 78 29 [(0, .ref 15), (1, .long cmp), (3, .ref 18), (4, .int 1045), (5, .int (nI s))] [] (hpT I A L O t) 0 0 Q := by
  induction m with
  | zero =>
    intro X I A L O Q t cmp s hb hm hq
    refine a_iload q78_29 rfl ?_
    refine a_iload q78_31 rfl ?_
    refine a_icmp_ge (tgt := 67) q78_33 (by decide) (fun zc33 => ?_) (fun zc33 => absurd (nI_le (show 1045 ≤ s by omega) (by omega)) zc33)
    refine a_return q78_67 rfl ?_
    exact hq
  | succ m ih =>
    intro X I A L O Q t cmp s hb hm hq
    refine a_iload q78_29 rfl ?_
    refine a_iload q78_31 rfl ?_
    refine a_icmp_ge (tgt := 67) q78_33 (by decide) (fun zc33 => absurd zc33 (nI_ge (show s < 1045 by omega) (by decide))) (fun zc33 => ?_)
    refine a_aload_n (i := 3) q78_36 rfl rfl ?_
    refine a_iload q78_37 rfl ?_
    refine a_iald' q78_39 rfl (j := s) rfl (by omega) (by decide) ?_
    refine a_istore (i := 6) (lv' := [(0, _), (1, _), (3, _), (4, _), (5, _), (6, _)]) q78_40 rfl rfl ?_
    refine a_aload_n (i := 0) q78_42 rfl rfl ?_
    refine a_getfield q78_43 rfl rfl ?_
    refine a_iload q78_46 rfl ?_
    refine a_cv1 q78_48 rfl rfl ⟨rfl, rfl⟩ rfl ?_
    refine c_X3_dull_2 ?_
    refine ck_r ?_
    refine a_if_ne (tgt := 61) q78_51 (by decide) (fun zc51 => ?_) (fun zc51 => ?_)
    · skip
      refine a_iinc (v := nI (s + 1)) (lv' := [(0, _), (1, _), (3, _), (4, _), (5, _), (6, _)]) q78_61 rfl rfl (nI_1 (s)) rfl ?_
      refine a_goto (tgt := 29) q78_64 (by decide) ?_
      refine AW.pop_less (x := (6, _)) (lv' := [(0, _), (1, _), (3, _), (4, _), (5, _)]) ?_
      have ze : tOne (f_fb I A) (f_cost I A L) (f_dull A) cmp (A 18) s t = t := if_pos (b2i_nz.mp zc51)
      rw [fl, ze] at hq
      exact ih hb (show s + 1 + m = 1045 by omega) hq
    · skip
      refine a_aload_n (i := 0) q78_54 rfl rfl ?_
      refine a_iload q78_55 rfl ?_
      refine a_lload_n (i := 1) q78_57 rfl rfl ?_
      refine a_cv2 q78_58 rfl rfl ⟨rfl, rfl⟩ rfl ?_
      refine c_X8_tryPlacement hb ?_
      refine ck_v ?_
      refine a_iinc (v := nI (s + 1)) (lv' := [(0, _), (1, _), (3, _), (4, _), (5, _), (6, _)]) q78_61 rfl rfl (nI_1 (s)) rfl ?_
      refine a_goto (tgt := 29) q78_64 (by decide) ?_
      refine AW.pop_less (x := (6, _)) (lv' := [(0, _), (1, _), (3, _), (4, _), (5, _)]) ?_
      have ze : tOne (f_fb I A) (f_cost I A L) (f_dull A) cmp (A 18) s t = tTry (f_fb I A) (f_cost I A L) cmp (A 18 s) t := if_neg (b2i_z.mp zc51)
      rw [fl, ze] at hq
      exact ih (tTry_le _ _ _ hb) (show s + 1 + m = 1045 by omega) hq

def tAll (I : Nat → Int32) (A : Nat → Nat → Int32) (L : Nat → Nat → Int64) (cmp : Int64) : TT := fl (tOne (f_fb I A) (f_cost I A L) (f_dull A) cmp (A 18)) 1045 0 ((0, L 17), 0, 0)
theorem c_X8_tryAll {X : XS} {I : Nat → Int32} {A : Nat → Nat → Int32} {L : Nat → Nat → Int64} {O : Nat → UInt64} {Q : AO → AH → Prop} {cmp : Int64} (hq : Q (.inl none) (hpT I A L O (tAll I A L cmp))) : Call X 78 [.ref 15, .long cmp] (hp I A L O) Q := by
  refine call_of (by decide) rfl rfl ?_
  refine a_aload_n (i := 0) q78_0 rfl rfl ?_
  refine a_getfield q78_1 rfl rfl ?_
  refine a_cv0 q78_4 rfl rfl ⟨rfl, rfl⟩ rfl ?_
  refine c_X0_clear_2 ?_
  refine ck_v ?_
  refine a_aload_n (i := 0) q78_7 rfl rfl ?_
  refine a_iconst (v := 0) q78_8 (by decide) ?_
  refine a_putfield q78_9 rfl rfl rfl rfl ?_
  refine AW.hp (h' := hp (va_up (va_up I 10 0) 8 0) A L O) rfl ?_
  refine a_aload_n (i := 0) q78_12 rfl rfl ?_
  refine a_iconst (v := 0) q78_13 (by decide) ?_
  refine a_putfield q78_14 rfl rfl rfl rfl ?_
  refine AW.hp (h' := hpT I A L O ((0, L 17), 0, 0)) rfl ?_
  refine a_aload_n (i := 0) q78_17 rfl rfl ?_
  refine a_getfield q78_18 rfl rfl ?_
  refine a_astore_n (i := 3) (lv' := [(0, _), (1, _), (3, _)]) q78_21 rfl rfl rfl ?_
  refine a_aload_n (i := 3) q78_22 rfl rfl ?_
  refine a_alen (v := 1045) q78_23 rfl (by decide) rfl ?_
  refine a_istore (i := 4) (lv' := [(0, _), (1, _), (3, _), (4, _)]) q78_24 rfl rfl ?_
  refine a_iconst (v := 0) q78_26 (by decide) ?_
  refine a_istore (i := 5) (lv' := [(0, _), (1, _), (3, _), (4, _), (5, _)]) q78_27 rfl rfl ?_
  unfold tAll at hq
  exact l_tone (I := I) (L := L) (t := ((0, L 17), 0, 0)) 1045 (s := 0) (Nat.zero_le 5) (Nat.zero_add 1045) hq

theorem c_X8_run {X : XS} {I : Nat → Int32} {A : Nat → Nat → Int32} {L : Nat → Nat → Int64} {O : Nat → UInt64} {Q : AO → AH → Prop}  (hq : Q (.inl none) (hpT I A L O (tAll I A L 0))) : Call X 77 [.ref 15] (hp I A L O) Q := by
  refine call_of (by decide) rfl rfl ?_
  refine a_aload_n (i := 0) q77_0 rfl rfl ?_
  refine a_lconst (v := 0) q77_1 (by decide) ?_
  refine a_cv1 q77_2 rfl rfl ⟨rfl, rfl⟩ rfl ?_
  refine c_X8_tryAll ?_
  refine ck_v ?_
  refine a_return q77_5 rfl ?_
  exact hq

theorem c_X8_countBetterThan {X : XS} {I : Nat → Int32} {A : Nat → Nat → Int32} {L : Nat → Nat → Int64} {O : Nat → UInt64} {Q : AO → AH → Prop} {c : Int32} (hq : Q (.inl (some (.int (tAll I A L (p_of (f_cost I A L c) c)).2.2))) (hpT I A L O (tAll I A L (p_of (f_cost I A L c) c)))) : Call X 76 [.ref 15, .int c] (hp I A L O) Q := by
  refine call_of (by decide) rfl rfl ?_
  refine a_aload_n (i := 0) q76_0 rfl rfl ?_
  refine a_aload_n (i := 0) q76_1 rfl rfl ?_
  refine a_getfield q76_2 rfl rfl ?_
  refine a_iload_n (i := 1) q76_5 rfl rfl ?_
  refine a_cv1 q76_6 rfl rfl ⟨rfl, rfl⟩ rfl ?_
  refine c_X2_costOf ?_
  refine ck_r ?_
  refine a_iload_n (i := 1) q76_9 rfl rfl ?_
  refine a_cs2 q76_10 rfl ⟨rfl, rfl⟩ rfl ?_
  refine c_X5_of ?_
  refine ck_r ?_
  refine a_cv1 q76_13 rfl rfl ⟨rfl, rfl⟩ rfl ?_
  refine c_X8_tryAll ?_
  refine ck_v ?_
  refine a_aload_n (i := 0) q76_16 rfl rfl ?_
  refine a_getfield q76_17 rfl rfl ?_
  refine a_ireturn q76_20 (nr_int rfl _) ?_
  exact hq

theorem c_X8_ranking {X : XS} {I : Nat → Int32} {A : Nat → Nat → Int32} {L : Nat → Nat → Int64} {O : Nat → UInt64} {Q : AO → AH → Prop}  (hq : Q (.inl (some (.ref 16))) (hp I A L O)) : Call X 74 [.ref 15] (hp I A L O) Q := by
  refine call_of (by decide) rfl rfl ?_
  refine a_aload_n (i := 0) q74_0 rfl rfl ?_
  refine a_getfield q74_1 rfl rfl ?_
  refine a_areturn q74_4 ⟨_, rfl, Or.inl ⟨_, rfl⟩⟩ ?_
  exact hq

theorem c_X8_allowedCount {X : XS} {I : Nat → Int32} {A : Nat → Nat → Int32} {L : Nat → Nat → Int64} {O : Nat → UInt64} {Q : AO → AH → Prop}  (hq : Q (.inl (some (.int (I 8)))) (hp I A L O)) : Call X 75 [.ref 15] (hp I A L O) Q := by
  refine call_of (by decide) rfl rfl ?_
  refine a_aload_n (i := 0) q75_0 rfl rfl ?_
  refine a_getfield q75_1 rfl rfl ?_
  refine a_ireturn q75_4 (nr_int rfl _) ?_
  exact hq

def g_wish (w c : Int32) (z : Int32) : Int32 := if z = 0 then w &&& (((1 : Int32) <<< (c &&& 31)) ^^^ (-1)) else w ||| ((1 : Int32) <<< (c &&& 31))
theorem g_wish_z {w c z : Int32} (h : z = 0) : w &&& (((1 : Int32) <<< (c &&& 31)) ^^^ (-1)) = g_wish w c z := (if_pos h).symm
theorem g_wish_nz {w c z : Int32} (h : ¬ z = 0) : w ||| ((1 : Int32) <<< (c &&& 31)) = g_wish w c z := (if_neg h).symm
theorem c_X3_wishColumn {X : XS} {I : Nat → Int32} {A : Nat → Nat → Int32} {L : Nat → Nat → Int64} {O : Nat → UInt64} {Q : AO → AH → Prop} {c z : Int32} (hq : Q (.inl (some (.int (g_bc (g_wish (I 3) c z))))) (hp (va_up I 3 (g_wish (I 3) c z)) A L O)) : Call X 26 [.ref 9, .int c, .int z] (hp I A L O) Q := by
  refine call_of (by decide) rfl rfl ?_
  refine a_iconst (v := 1) q26_0 (by decide) ?_
  refine a_iload_n (i := 1) q26_1 rfl rfl ?_
  refine a_ishl q26_2 ?_
  refine a_istore_n (i := 3) (lv' := [(0, _), (1, _), (2, _), (3, _)]) q26_3 rfl rfl rfl ?_
  refine a_aload_n (i := 0) q26_4 rfl rfl ?_
  refine a_iload_n (i := 2) q26_5 rfl rfl ?_
  refine a_if_eq (tgt := 18) q26_6 (by decide) (fun zc6 => ?_) (fun zc6 => ?_)
  · skip
    refine a_aload_n (i := 0) q26_18 rfl rfl ?_
    refine a_getfield q26_19 rfl rfl ?_
    refine a_iload_n (i := 3) q26_22 rfl rfl ?_
    refine a_iconst (v := (-1)) q26_23 (by decide) ?_
    refine a_ixor q26_24 ?_
    refine a_iand q26_25 ?_
    refine AW.ti (g_wish_z zc6) ?_
    refine a_putfield q26_26 rfl rfl rfl rfl ?_
    refine AW.hp (h' := hp (va_up I 3 (g_wish (I 3) c z)) A L O) rfl ?_
    refine a_aload_n (i := 0) q26_29 rfl rfl ?_
    refine a_getfield q26_30 rfl rfl ?_
    refine a_cs1 q26_33 rfl ⟨rfl, rfl⟩ rfl ?_
    refine c_J6_bitCount_0f7a4 ?_
    refine ck_r ?_
    refine a_ireturn q26_36 (nr_int rfl _) ?_
    exact hq
  · skip
    refine a_aload_n (i := 0) q26_9 rfl rfl ?_
    refine a_getfield q26_10 rfl rfl ?_
    refine a_iload_n (i := 3) q26_13 rfl rfl ?_
    refine a_ior q26_14 ?_
    refine a_goto (tgt := 26) q26_15 (by decide) ?_
    refine AW.ti (g_wish_nz zc6) ?_
    refine a_putfield q26_26 rfl rfl rfl rfl ?_
    refine AW.hp (h' := hp (va_up I 3 (g_wish (I 3) c z)) A L O) rfl ?_
    refine a_aload_n (i := 0) q26_29 rfl rfl ?_
    refine a_getfield q26_30 rfl rfl ?_
    refine a_cs1 q26_33 rfl ⟨rfl, rfl⟩ rfl ?_
    refine c_J6_bitCount_0f7a4 ?_
    refine ck_r ?_
    refine a_ireturn q26_36 (nr_int rfl _) ?_
    exact hq

theorem c_X3_exchangeWishedMark {X : XS} {I : Nat → Int32} {A : Nat → Nat → Int32} {L : Nat → Nat → Int64} {O : Nat → UInt64} {Q : AO → AH → Prop} {m : Int32} (hm : narrow .char (.int m) = .int m) (hf : fits .char (.int m) = true) (hn4 : narrow .char (.int (I 4)) = .int (I 4)) (hq : Q (.inl (some (.int (I 4)))) (hp (va_up I 4 m) A L O)) : Call X 27 [.ref 9, .int m] (hp I A L O) Q := by
  refine call_of (by decide) rfl rfl ?_
  refine a_aload_n (i := 0) q27_0 rfl rfl ?_
  refine a_getfield q27_1 rfl rfl ?_
  refine a_istore_n (i := 2) (lv' := [(0, _), (1, _), (2, _)]) q27_4 rfl rfl rfl ?_
  refine a_aload_n (i := 0) q27_5 rfl rfl ?_
  refine a_iload_n (i := 1) q27_6 rfl rfl ?_
  refine a_putfield q27_7 rfl hm hf rfl ?_
  refine AW.hp (h' := hp (va_up I 4 m) A L O) rfl ?_
  refine a_iload_n (i := 2) q27_10 rfl rfl ?_
  refine a_ireturn q27_11 (nr_char rfl hn4) ?_
  exact hq

def g_turn (f c k : Int32) : Int32 := f ^^^ ((1 : Int32) <<< ((c * 4 + k) &&& 31))
theorem c_X3_turnForbidden {X : XS} {I : Nat → Int32} {A : Nat → Nat → Int32} {L : Nat → Nat → Int64} {O : Nat → UInt64} {Q : AO → AH → Prop} {c k : Int32} (hq : Q (.inl (some (.int (g_bc (g_turn (I 5) c k))))) (hp (va_up I 5 (g_turn (I 5) c k)) A L O)) : Call X 29 [.ref 9, .int c, .int k] (hp I A L O) Q := by
  refine call_of (by decide) rfl rfl ?_
  refine a_aload_n (i := 0) q29_0 rfl rfl ?_
  refine a_dup q29_1 rfl ?_
  refine a_getfield q29_2 rfl rfl ?_
  refine a_iconst (v := 1) q29_5 (by decide) ?_
  refine a_iload_n (i := 1) q29_6 rfl rfl ?_
  refine a_iconst (v := 4) q29_7 (by decide) ?_
  refine a_imul q29_8 ?_
  refine a_iload_n (i := 2) q29_9 rfl rfl ?_
  refine a_iadd q29_10 ?_
  refine a_ishl q29_11 ?_
  refine a_ixor q29_12 ?_
  refine a_putfield q29_13 rfl rfl rfl rfl ?_
  refine AW.hp (h' := hp (va_up I 5 (g_turn (I 5) c k)) A L O) rfl ?_
  refine a_aload_n (i := 0) q29_16 rfl rfl ?_
  refine a_getfield q29_17 rfl rfl ?_
  refine a_cs1 q29_20 rfl ⟨rfl, rfl⟩ rfl ?_
  refine c_J6_bitCount_0f7a4 ?_
  refine ck_r ?_
  refine a_ireturn q29_23 (nr_int rfl _) ?_
  exact hq

abbrev isRule (r : Int32) : Prop := 0 ≤ r ∧ r < 8
theorem c_X2_hasRule {X : XS} {I : Nat → Int32} {A : Nat → Nat → Int32} {L : Nat → Nat → Int64} {O : Nat → UInt64} {Q : AO → AH → Prop} {r : Int32} (hq : Q (.inl (some (.int (b2i (isRule r))))) (hp I A L O)) : Call X 19 [.ref 10, .int r] (hp I A L O) Q := by
  refine call_of (by decide) rfl rfl ?_
  refine a_iload_n (i := 1) q19_0 rfl rfl ?_
  refine a_if_lt (tgt := 17) q19_1 (by decide) (fun zc1 => ?_) (fun zc1 => ?_)
  · skip
    refine a_iconst (v := 0) q19_17 (by decide) ?_
    refine a_ireturn q19_18 (nr_bool rfl (by decide)) ?_
    exact lfi hq (by have zl := lits; unfold b2i; split <;> (simp only [isRule, i_lt, i_le, i_eq] at * <;> omega))
  · skip
    refine a_iload_n (i := 1) q19_4 rfl rfl ?_
    refine a_aload_n (i := 0) q19_5 rfl rfl ?_
    refine a_getfield q19_6 rfl rfl ?_
    refine a_alen (v := 8) q19_9 rfl (by decide) rfl ?_
    refine a_icmp_ge (tgt := 17) q19_10 (by decide) (fun zc10 => ?_) (fun zc10 => ?_)
    · skip
      refine a_iconst (v := 0) q19_17 (by decide) ?_
      refine a_ireturn q19_18 (nr_bool rfl (by decide)) ?_
      exact lfi hq (by have zl := lits; unfold b2i; split <;> (simp only [isRule, i_lt, i_le, i_eq] at * <;> omega))
    · skip
      refine a_iconst (v := 1) q19_13 (by decide) ?_
      refine a_goto (tgt := 18) q19_14 (by decide) ?_
      refine a_ireturn q19_18 (nr_bool rfl (by decide)) ?_
      exact lfi hq (by have zl := lits; unfold b2i; split <;> (simp only [isRule, i_lt, i_le, i_eq] at * <;> omega))

theorem c_X2_exchangeWeight {X : XS} {I : Nat → Int32} {A : Nat → Nat → Int32} {L : Nat → Nat → Int64} {O : Nat → UInt64} {Q : AO → AH → Prop} {j : Nat} {w : Int32} (hj : j < 8) (hq : Q (.inl (some (.int (A 11 j)))) (hp I (va_up A 11 (upd (A 11) j w)) L O)) : Call X 20 [.ref 10, .int (nI j), .int w] (hp I A L O) Q := by
  refine call_of (by decide) rfl rfl ?_
  refine a_aload_n (i := 0) q20_0 rfl rfl ?_
  refine a_iload_n (i := 1) q20_1 rfl rfl ?_
  refine a_cv1 q20_2 rfl rfl ⟨rfl, rfl⟩ rfl ?_
  refine c_X2_hasRule ?_
  refine ck_r ?_
  refine a_if_ne (tgt := 10) q20_5 (by decide) (fun zc5 => ?_) (fun zc5 => absurd zc5 (b2i_nz.mpr ⟨nI_pos' (by omega), nI_lt hj (by decide)⟩))
  refine a_aload_n (i := 0) q20_10 rfl rfl ?_
  refine a_getfield q20_11 rfl rfl ?_
  refine a_iload_n (i := 1) q20_14 rfl rfl ?_
  refine a_iald' q20_15 rfl (j := j) rfl hj (by decide) ?_
  refine a_istore_n (i := 3) (lv' := [(0, _), (1, _), (2, _), (3, _)]) q20_16 rfl rfl rfl ?_
  refine a_aload_n (i := 0) q20_17 rfl rfl ?_
  refine a_getfield q20_18 rfl rfl ?_
  refine a_iload_n (i := 1) q20_21 rfl rfl ?_
  refine a_iload_n (i := 2) q20_22 rfl rfl ?_
  refine a_iast' q20_23 rfl (j := j) rfl hj (by decide) (h' := hp I (va_up A 11 (upd (A 11) j w)) L O) rfl ?_
  refine a_iload_n (i := 3) q20_24 rfl rfl ?_
  refine a_ireturn q20_25 (nr_int rfl _) ?_
  exact hq
