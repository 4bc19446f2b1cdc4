/-! search and trial -/
abbrev BT := Nat × (Nat → Int64)
def offerB (b : BT) (p : Int64) : BT := if ouR (nI b.1) b.2 p then b else if b.1 < 5 then (b.1 + 1, offA b.2 p b.1) else (b.1, offA b.2 p 4)
theorem offerB_le {b : BT} {p : Int64} (h : b.1 ≤ 5) : (offerB b p).1 ≤ 5 := by
  unfold offerB; split
  · exact h
  · split
    · show b.1 + 1 ≤ 5; omega
    · exact h
/-- a counted loop -/
def fl {σ : Type} (g : Nat → σ → σ) : Nat → Nat → σ → σ
  | 0, _, b => b
  | m + 1, s, b => fl g m (s + 1) (g s b)
theorem fl_inv {σ : Type} {g : Nat → σ → σ} {I : σ → Prop} (hg : ∀ s b, I b → I (g s b)) : ∀ m s b, I b → I (fl g m s b)
  | 0, _, _, h => h
  | m + 1, s, b, h => fl_inv hg m (s + 1) (g s b) (hg s b h)
def xI (s : Nat) : Int32 := nI s - 1
theorem xI_lt {s : Nat} (h : s < 7) : ¬ (6 : Int32) ≤ xI s := by
  have : ∀ z, z < 7 → ¬ (6 : Int32) ≤ xI z := by decide +kernel
  exact this s h
theorem xI_7 {s : Nat} (h : s = 7) : (6 : Int32) ≤ xI s := by subst h; decide +kernel
theorem xI_1 (s : Nat) : xI s + 1 = xI (s + 1) := by
  show nI s - 1 + 1 = nI (s + 1) - 1
  rw [nI_pred]; exact Int32.sub_add_cancel _ _
section PURE
variable (fb co : Int32 → Int32)
def sStep (c : Int32) (s : Nat) (b : BT) : BT := if g_holds c (xI s) then b else if fb (g_wCol c 3 (xI s)) = 0 then offerB b (p_of (co (g_wCol c 3 (xI s))) (g_wCol c 3 (xI s))) else b
def sSizes (c : Int32) (b : BT) : BT := fl (sStep fb co c) 7 0 b
abbrev hopeless (b : BT) (c : Int32) : Prop := (¬ fb c = 0 ∧ ¬ fb c = 9) ∨ ouR (nI b.1) b.2 (p_of (co c) c)
def sCol (axes : Int32) (s : Nat) (b : BT) : BT := if g_holds axes (xI s) then b else if hopeless fb co b (g_wCol axes 2 (xI s)) then b else sSizes fb co (g_wCol axes 2 (xI s)) b
def sCols (axes : Int32) (b : BT) : BT := fl (sCol fb co axes) 7 0 b
def sY (based x : Int32) (s : Nat) (b : BT) : BT := if x = xI s then b else if hopeless fb co b (g_wCol based 1 (xI s)) then b else sCols fb co (g_wCol based 1 (xI s)) b
def sX (bare : Int32) (s : Nat) (b : BT) : BT := fl (sY fb co (g_wCol bare 0 (xI s)) (xI s)) 7 0 b
def sFrom (bare : Int32) (b : BT) : BT := fl (sX fb co bare) 7 0 b
def sAgg (mk : Int32) (s : Nat) (b : BT) : BT := sFrom fb co (g_bare mk (nI s)) b
def sMark (s : Nat) (b : BT) : BT := fl (sAgg fb co (ro_m s)) 3 0 b
def sAll (b : BT) : BT := fl (sMark fb co) 3 0 b
variable {fb co}
theorem sStep_le (c : Int32) (s : Nat) (b : BT) (h : b.1 ≤ 5) : (sStep fb co c s b).1 ≤ 5 := by
  unfold sStep; split
  · exact h
  · split
    · exact offerB_le h
    · exact h
theorem sSizes_le (c : Int32) (b : BT) (h : b.1 ≤ 5) : (sSizes fb co c b).1 ≤ 5 := fl_inv (I := fun b : BT => b.1 ≤ 5) (sStep_le c) _ _ _ h
theorem sCol_le (c : Int32) (s : Nat) (b : BT) (h : b.1 ≤ 5) : (sCol fb co c s b).1 ≤ 5 := by
  unfold sCol; split
  · exact h
  · split
    · exact h
    · exact sSizes_le _ _ h
theorem sCols_le (c : Int32) (b : BT) (h : b.1 ≤ 5) : (sCols fb co c b).1 ≤ 5 := fl_inv (I := fun b : BT => b.1 ≤ 5) (sCol_le c) _ _ _ h
theorem sY_le (c x : Int32) (s : Nat) (b : BT) (h : b.1 ≤ 5) : (sY fb co c x s b).1 ≤ 5 := by
  unfold sY; split
  · exact h
  · split
    · exact h
    · exact sCols_le _ _ h
theorem sX_le (c : Int32) (s : Nat) (b : BT) (h : b.1 ≤ 5) : (sX fb co c s b).1 ≤ 5 := fl_inv (I := fun b : BT => b.1 ≤ 5) (sY_le _ _) _ _ _ h
theorem sFrom_le (c : Int32) (b : BT) (h : b.1 ≤ 5) : (sFrom fb co c b).1 ≤ 5 := fl_inv (I := fun b : BT => b.1 ≤ 5) (sX_le c) _ _ _ h
theorem sMark_le (s : Nat) (b : BT) (h : b.1 ≤ 5) : (sMark fb co s b).1 ≤ 5 := fl_inv (I := fun b : BT => b.1 ≤ 5) (fun _ _ => sFrom_le _ _) _ _ _ h
theorem sAll_le (b : BT) (h : b.1 ≤ 5) : (sAll fb co b).1 ≤ 5 := fl_inv (I := fun b : BT => b.1 ≤ 5) sMark_le _ _ _ h
end PURE
abbrev hpB (I : Nat → Int32) (A : Nat → Nat → Int32) (L : Nat → Nat → Int64) (O : AH) (b : BT) : AH := hp (va_up I 7 (nI b.1)) A (va_up L 14 b.2) O
theorem b2i_or {p q : Prop} [Decidable p] [Decidable q] (h : ¬ p) : b2i q = b2i (p ∨ q) := by unfold b2i; simp [h]

theorem c_X3_firstBroken_1 {X : XS} {I : Nat → Int32} {A : Nat → Nat → Int32} {L : Nat → Nat → Int64} {O : AH} {Q : AO → AH → Prop} {b : BT} {c : Int32} (hq : Q (.inl (some (.int (f_fb I A c)))) (hpB I A L O b)) : Call X 29 [.ref 10, .int c] (hpB I A L O b) Q := c_X3_firstBroken (lfi hq rfl)
theorem c_X2_costOf_1 {X : XS} {I : Nat → Int32} {A : Nat → Nat → Int32} {L : Nat → Nat → Int64} {O : AH} {Q : AO → AH → Prop} {b : BT} {c : Int32} (hq : Q (.inl (some (.int (f_cost I A L c)))) (hpB I A L O b)) : Call X 19 [.ref 11, .int c] (hpB I A L O b) Q := c_X2_costOf (lfi hq rfl)
theorem c_X0_offer_1B {X : XS} {I : Nat → Int32} {A : Nat → Nat → Int32} {L : Nat → Nat → Int64} {O : AH} {Q : AO → AH → Prop} {b : BT} {p : Int64} (hb : b.1 ≤ 5) (hq : Q (.inl none) (hpB I A L O (offerB b p))) : Call X 7 [.ref 14, .long p] (hpB I A L O b) Q := by
  refine c_X0_offer_1 (k := b.1) rfl hb (fun h => ?_) (fun h hk => ?_) (fun h hk => ?_)
  · have e : offerB b p = b := if_pos h
    rw [e] at hq; exact hq
  · have e : offerB b p = (b.1 + 1, offA b.2 p b.1) := (if_neg h).trans (if_pos hk)
    rw [e] at hq; exact lfh hq rfl
  · have e : offerB b p = (b.1, offA b.2 p 4) := (if_neg h).trans (if_neg (by omega))
    rw [e] at hq; exact lfh hq rfl
theorem c_X6_isHopeless_1 {X : XS} {I : Nat → Int32} {A : Nat → Nat → Int32} {L : Nat → Nat → Int64} {O : AH} {Q : AO → AH → Prop} {b : BT} {c : Int32} (hq : Q (.inl (some (.int (b2i (hopeless (f_fb I A) (f_cost I A L) b c))))) (hpB I A L O b)) : Call X 42 [.ref 13, .int c] (hpB I A L O b) Q := by
  refine call_of (by decide) rfl rfl ?_
  refine a_aload_n (i := 0) q42_0 rfl rfl ?_
  refine a_getfield q42_1 rfl rfl ?_
  refine a_iload_n (i := 1) q42_4 rfl rfl ?_
  refine a_cv1 q42_5 rfl rfl ⟨rfl, rfl⟩ rfl ?_
  refine c_X3_firstBroken_1 ?_
  refine ck_r ?_
  refine a_istore_n (i := 2) (lv' := [(0, _), (1, _), (2, _)]) q42_8 rfl rfl rfl ?_
  refine a_iload_n (i := 2) q42_9 rfl rfl ?_
  refine a_if_eq (tgt := 21) q42_10 (by decide) (fun zc10 => ?_) (fun zc10 => ?_)
  · skip
    refine a_aload_n (i := 0) q42_21 rfl rfl ?_
    refine a_getfield q42_22 rfl rfl ?_
    refine a_aload_n (i := 0) q42_25 rfl rfl ?_
    refine a_getfield q42_26 rfl rfl ?_
    refine a_iload_n (i := 1) q42_29 rfl rfl ?_
    refine a_cv1 q42_30 rfl rfl ⟨rfl, rfl⟩ rfl ?_
    refine c_X2_costOf_1 ?_
    refine ck_r ?_
    refine a_iload_n (i := 1) q42_33 rfl rfl ?_
    refine a_cs2 q42_34 rfl ⟨rfl, rfl⟩ rfl ?_
    refine c_X5_of ?_
    refine ck_r ?_
    refine a_cv1 q42_37 rfl rfl ⟨rfl, rfl⟩ rfl ?_
    refine c_X0_isOutOfReach_1 ?_
    refine ck_r ?_
    refine a_ireturn q42_40 (nr_bool rfl b2i_01) ?_
    exact lfi hq (b2i_or (fun zh => zh.1 zc10))
  · skip
    refine a_iload_n (i := 2) q42_13 rfl rfl ?_
    refine a_bipush (v := 9) q42_14 (by decide) ?_
    refine a_icmp_eq (tgt := 21) q42_16 (by decide) (fun zc16 => ?_) (fun zc16 => ?_)
    · skip
      refine a_aload_n (i := 0) q42_21 rfl rfl ?_
      refine a_getfield q42_22 rfl rfl ?_
      refine a_aload_n (i := 0) q42_25 rfl rfl ?_
      refine a_getfield q42_26 rfl rfl ?_
      refine a_iload_n (i := 1) q42_29 rfl rfl ?_
      refine a_cv1 q42_30 rfl rfl ⟨rfl, rfl⟩ rfl ?_
      refine c_X2_costOf_1 ?_
      refine ck_r ?_
      refine a_iload_n (i := 1) q42_33 rfl rfl ?_
      refine a_cs2 q42_34 rfl ⟨rfl, rfl⟩ rfl ?_
      refine c_X5_of ?_
      refine ck_r ?_
      refine a_cv1 q42_37 rfl rfl ⟨rfl, rfl⟩ rfl ?_
      refine c_X0_isOutOfReach_1 ?_
      refine ck_r ?_
      refine a_ireturn q42_40 (nr_bool rfl b2i_01) ?_
      exact lfi hq (b2i_or (fun zh => zh.2 zc16))
    · skip
      refine a_iconst (v := 1) q42_19 (by decide) ?_
      refine a_ireturn q42_20 (nr_bool rfl (by decide)) ?_
      exact lfi hq (b2i_t (p := hopeless (f_fb I A) (f_cost I A L) b c) (Or.inl ⟨zc10, zc16⟩)).symm

theorem l_offS (m : Nat) : ∀ {X : XS} {I : Nat → Int32} {A : Nat → Nat → Int32} {L : Nat → Nat → Int64} {O : AH} {Q : AO → AH → Prop} {b : BT} {c : Int32} {s : Nat} (hb : b.1 ≤ 5) (hm : s + m = 7) (hq : Q (.inl none) (hpB I A L O (fl (sStep (f_fb I A) (f_cost I A L) c) m s b))), AW X 41 2 [(0, .ref 13), (1, .int c), (2, .int (xI s))] [] (hpB I A L O b) 0 0 Q := by
  induction m with
  | zero =>
    intro X I A L O Q b c s hb hm hq
    refine a_iload_n (i := 2) q41_2 rfl rfl ?_
    refine a_bipush (v := 6) q41_3 (by decide) ?_
    refine a_icmp_ge (tgt := 59) q41_5 (by decide) (fun zc5 => ?_) (fun zc5 => absurd (xI_7 (by omega)) zc5)
    refine a_return q41_59 rfl ?_
    exact hq
  | succ m ih =>
    intro X I A L O Q b c s hb hm hq
    refine a_iload_n (i := 2) q41_2 rfl rfl ?_
    refine a_bipush (v := 6) q41_3 (by decide) ?_
    refine a_icmp_ge (tgt := 59) q41_5 (by decide) (fun zc5 => absurd zc5 (xI_lt (by omega))) (fun zc5 => ?_)
    refine a_iload_n (i := 1) q41_8 rfl rfl ?_
    refine a_iconst (v := 3) q41_9 (by decide) ?_
    refine a_iload_n (i := 2) q41_10 rfl rfl ?_
    refine a_cs3 q41_11 rfl ⟨rfl, rfl⟩ rfl ?_
    refine c_X1_withColumn ?_
    refine ck_r ?_
    refine a_istore_n (i := 3) (lv' := [(0, _), (1, _), (2, _), (3, _)]) q41_14 rfl rfl rfl ?_
    refine a_iload_n (i := 1) q41_15 rfl rfl ?_
    refine a_iload_n (i := 2) q41_16 rfl rfl ?_
    refine a_cs2 q41_17 rfl ⟨rfl, rfl⟩ rfl ?_
    refine c_X1_holds ?_
    refine ck_r ?_
    refine a_if_ne (tgt := 53) q41_20 (by decide) (fun zc20 => ?_) (fun zc20 => ?_)
    · skip
      refine a_iinc (v := xI (s + 1)) (lv' := [(0, _), (1, _), (2, _), (3, _)]) q41_53 rfl rfl (xI_1 (s)) rfl ?_
      refine a_goto (tgt := 2) q41_56 (by decide) ?_
      refine AW.pop_less (x := (3, _)) (lv' := [(0, _), (1, _), (2, _)]) ?_
      have ze : sStep (f_fb I A) (f_cost I A L) c s b = b := if_pos (b2i_nz.mp zc20)
      rw [fl, ze] at hq
      exact ih hb (show s + 1 + m = 7 by omega) hq
    · skip
      refine a_aload_n (i := 0) q41_23 rfl rfl ?_
      refine a_getfield q41_24 rfl rfl ?_
      refine a_iload_n (i := 3) q41_27 rfl rfl ?_
      refine a_cv1 q41_28 rfl rfl ⟨rfl, rfl⟩ rfl ?_
      refine c_X3_firstBroken_1 ?_
      refine ck_r ?_
      refine a_if_ne (tgt := 53) q41_31 (by decide) (fun zc31 => ?_) (fun zc31 => ?_)
      · skip
        refine a_iinc (v := xI (s + 1)) (lv' := [(0, _), (1, _), (2, _), (3, _)]) q41_53 rfl rfl (xI_1 (s)) rfl ?_
        refine a_goto (tgt := 2) q41_56 (by decide) ?_
        refine AW.pop_less (x := (3, _)) (lv' := [(0, _), (1, _), (2, _)]) ?_
        have ze : sStep (f_fb I A) (f_cost I A L) c s b = b := (if_neg (b2i_z.mp zc20)).trans (if_neg zc31)
        rw [fl, ze] at hq
        exact ih hb (show s + 1 + m = 7 by omega) hq
      · skip
        refine a_aload_n (i := 0) q41_34 rfl rfl ?_
        refine a_getfield q41_35 rfl rfl ?_
        refine a_aload_n (i := 0) q41_38 rfl rfl ?_
        refine a_getfield q41_39 rfl rfl ?_
        refine a_iload_n (i := 3) q41_42 rfl rfl ?_
        refine a_cv1 q41_43 rfl rfl ⟨rfl, rfl⟩ rfl ?_
        refine c_X2_costOf_1 ?_
        refine ck_r ?_
        refine a_iload_n (i := 3) q41_46 rfl rfl ?_
        refine a_cs2 q41_47 rfl ⟨rfl, rfl⟩ rfl ?_
        refine c_X5_of ?_
        refine ck_r ?_
        refine a_cv1 q41_50 rfl rfl ⟨rfl, rfl⟩ rfl ?_
        refine c_X0_offer_1B hb ?_
        refine ck_v ?_
        refine a_iinc (v := xI (s + 1)) (lv' := [(0, _), (1, _), (2, _), (3, _)]) q41_53 rfl rfl (xI_1 (s)) rfl ?_
        refine a_goto (tgt := 2) q41_56 (by decide) ?_
        refine AW.pop_less (x := (3, _)) (lv' := [(0, _), (1, _), (2, _)]) ?_
        have ze : sStep (f_fb I A) (f_cost I A L) c s b = offerB b (p_of (f_cost I A L (g_wCol c 3 (xI s))) (g_wCol c 3 (xI s))) := (if_neg (b2i_z.mp zc20)).trans (if_pos zc31)
        rw [fl, ze] at hq
        exact ih (offerB_le hb) (show s + 1 + m = 7 by omega) hq

theorem c_X6_offerSizes_1 {X : XS} {I : Nat → Int32} {A : Nat → Nat → Int32} {L : Nat → Nat → Int64} {O : AH} {Q : AO → AH → Prop} {b : BT} {c : Int32} (hb : b.1 ≤ 5) (hq : Q (.inl none) (hpB I A L O (sSizes (f_fb I A) (f_cost I A L) c b))) : Call X 41 [.ref 13, .int c] (hpB I A L O b) Q := by
  refine call_of (by decide) rfl rfl ?_
  refine a_iconst (v := (-1)) q41_0 (by decide) ?_
  refine a_istore_n (i := 2) (lv' := [(0, _), (1, _), (2, _)]) q41_1 rfl rfl rfl ?_
  exact l_offS 7 (s := 0) hb rfl hq

theorem l_colour (m : Nat) : ∀ {X : XS} {I : Nat → Int32} {A : Nat → Nat → Int32} {L : Nat → Nat → Int64} {O : AH} {Q : AO → AH → Prop} {b : BT} {bare x based y axes : Int32} {s : Nat} (hb : b.1 ≤ 5) (hm : s + m = 7) (hk : AW X 40 103 [(0, .ref 13), (1, .int bare), (2, .int x), (3, .int based), (4, .int y)] [] (hpB I A L O (fl (sCol (f_fb I A) (f_cost I A L) axes) m s b)) 0 0 Q), AW X 40 55 [(0, .ref 13), (1, .int bare), (2, .int x), (3, .int based), (4, .int y), (5, .int axes), (6, .int (xI s))] [] (hpB I A L O b) 0 0 Q := by
  induction m with
  | zero =>
    intro X I A L O Q b bare x based y axes s hb hm hk
    refine a_iload q40_55 rfl ?_
    refine a_bipush (v := 6) q40_57 (by decide) ?_
    refine a_icmp_ge (tgt := 103) q40_59 (by decide) (fun zc59 => ?_) (fun zc59 => absurd (xI_7 (by omega)) zc59)
    refine AW.pop_less (x := (6, _)) (lv' := [(0, _), (1, _), (2, _), (3, _), (4, _), (5, _)]) ?_
    refine AW.pop_less (x := (5, _)) (lv' := [(0, _), (1, _), (2, _), (3, _), (4, _)]) ?_
    exact hk
  | succ m ih =>
    intro X I A L O Q b bare x based y axes s hb hm hk
    refine a_iload q40_55 rfl ?_
    refine a_bipush (v := 6) q40_57 (by decide) ?_
    refine a_icmp_ge (tgt := 103) q40_59 (by decide) (fun zc59 => absurd zc59 (xI_lt (by omega))) (fun zc59 => ?_)
    refine a_iload q40_62 rfl ?_
    refine a_iconst (v := 2) q40_64 (by decide) ?_
    refine a_iload q40_65 rfl ?_
    refine a_cs3 q40_67 rfl ⟨rfl, rfl⟩ rfl ?_
    refine c_X1_withColumn ?_
    refine ck_r ?_
    refine a_istore (i := 7) (lv' := [(0, _), (1, _), (2, _), (3, _), (4, _), (5, _), (6, _), (7, _)]) q40_70 rfl rfl ?_
    refine a_iload q40_72 rfl ?_
    refine a_iload q40_74 rfl ?_
    refine a_cs2 q40_76 rfl ⟨rfl, rfl⟩ rfl ?_
    refine c_X1_holds ?_
    refine ck_r ?_
    refine a_if_ne (tgt := 97) q40_79 (by decide) (fun zc79 => ?_) (fun zc79 => ?_)
    · skip
      refine a_iinc (v := xI (s + 1)) (lv' := [(0, _), (1, _), (2, _), (3, _), (4, _), (5, _), (6, _), (7, _)]) q40_97 rfl rfl (xI_1 (s)) rfl ?_
      refine a_goto (tgt := 55) q40_100 (by decide) ?_
      refine AW.pop_less (x := (7, _)) (lv' := [(0, _), (1, _), (2, _), (3, _), (4, _), (5, _), (6, _)]) ?_
      have ze : sCol (f_fb I A) (f_cost I A L) axes s b = b := if_pos (b2i_nz.mp zc79)
      rw [fl, ze] at hk
      exact ih hb (show s + 1 + m = 7 by omega) hk
    · skip
      refine a_aload_n (i := 0) q40_82 rfl rfl ?_
      refine a_iload q40_83 rfl ?_
      refine a_cv1 q40_85 rfl rfl ⟨rfl, rfl⟩ rfl ?_
      refine c_X6_isHopeless_1 ?_
      refine ck_r ?_
      refine a_if_ne (tgt := 97) q40_88 (by decide) (fun zc88 => ?_) (fun zc88 => ?_)
      · skip
        refine a_iinc (v := xI (s + 1)) (lv' := [(0, _), (1, _), (2, _), (3, _), (4, _), (5, _), (6, _), (7, _)]) q40_97 rfl rfl (xI_1 (s)) rfl ?_
        refine a_goto (tgt := 55) q40_100 (by decide) ?_
        refine AW.pop_less (x := (7, _)) (lv' := [(0, _), (1, _), (2, _), (3, _), (4, _), (5, _), (6, _)]) ?_
        have ze : sCol (f_fb I A) (f_cost I A L) axes s b = b := (if_neg (b2i_z.mp zc79)).trans (if_pos (b2i_nz.mp zc88))
        rw [fl, ze] at hk
        exact ih hb (show s + 1 + m = 7 by omega) hk
      · skip
        refine a_aload_n (i := 0) q40_91 rfl rfl ?_
        refine a_iload q40_92 rfl ?_
        refine a_cv1 q40_94 rfl rfl ⟨rfl, rfl⟩ rfl ?_
        refine c_X6_offerSizes_1 hb ?_
        refine ck_v ?_
        refine a_iinc (v := xI (s + 1)) (lv' := [(0, _), (1, _), (2, _), (3, _), (4, _), (5, _), (6, _), (7, _)]) q40_97 rfl rfl (xI_1 (s)) rfl ?_
        refine a_goto (tgt := 55) q40_100 (by decide) ?_
        refine AW.pop_less (x := (7, _)) (lv' := [(0, _), (1, _), (2, _), (3, _), (4, _), (5, _), (6, _)]) ?_
        have ze : sCol (f_fb I A) (f_cost I A L) axes s b = sSizes (f_fb I A) (f_cost I A L) (g_wCol axes 2 (xI s)) b := (if_neg (b2i_z.mp zc79)).trans (if_neg (b2i_z.mp zc88))
        rw [fl, ze] at hk
        exact ih (sSizes_le _ _ hb) (show s + 1 + m = 7 by omega) hk

theorem l_y (m : Nat) : ∀ {X : XS} {I : Nat → Int32} {A : Nat → Nat → Int32} {L : Nat → Nat → Int64} {O : AH} {Q : AO → AH → Prop} {b : BT} {bare x based : Int32} {s : Nat} (hb : b.1 ≤ 5) (hm : s + m = 7) (hk : AW X 40 109 [(0, .ref 13), (1, .int bare), (2, .int x)] [] (hpB I A L O (fl (sY (f_fb I A) (f_cost I A L) based x) m s b)) 0 0 Q), AW X 40 18 [(0, .ref 13), (1, .int bare), (2, .int x), (3, .int based), (4, .int (xI s))] [] (hpB I A L O b) 0 0 Q := by
  induction m with
  | zero =>
    intro X I A L O Q b bare x based s hb hm hk
    refine a_iload q40_18 rfl ?_
    refine a_bipush (v := 6) q40_20 (by decide) ?_
    refine a_icmp_ge (tgt := 109) q40_22 (by decide) (fun zc22 => ?_) (fun zc22 => absurd (xI_7 (by omega)) zc22)
    refine AW.pop_less (x := (4, _)) (lv' := [(0, _), (1, _), (2, _), (3, _)]) ?_
    refine AW.pop_less (x := (3, _)) (lv' := [(0, _), (1, _), (2, _)]) ?_
    exact hk
  | succ m ih =>
    intro X I A L O Q b bare x based s hb hm hk
    refine a_iload q40_18 rfl ?_
    refine a_bipush (v := 6) q40_20 (by decide) ?_
    refine a_icmp_ge (tgt := 109) q40_22 (by decide) (fun zc22 => absurd zc22 (xI_lt (by omega))) (fun zc22 => ?_)
    refine a_iload_n (i := 3) q40_25 rfl rfl ?_
    refine a_iconst (v := 1) q40_26 (by decide) ?_
    refine a_iload q40_27 rfl ?_
    refine a_cs3 q40_29 rfl ⟨rfl, rfl⟩ rfl ?_
    refine c_X1_withColumn ?_
    refine ck_r ?_
    refine a_istore (i := 5) (lv' := [(0, _), (1, _), (2, _), (3, _), (4, _), (5, _)]) q40_32 rfl rfl ?_
    refine a_iload_n (i := 2) q40_34 rfl rfl ?_
    refine a_iload q40_35 rfl ?_
    refine a_icmp_eq (tgt := 103) q40_37 (by decide) (fun zc37 => ?_) (fun zc37 => ?_)
    · skip
      refine a_iinc (v := xI (s + 1)) (lv' := [(0, _), (1, _), (2, _), (3, _), (4, _), (5, _)]) q40_103 rfl rfl (xI_1 (s)) rfl ?_
      refine a_goto (tgt := 18) q40_106 (by decide) ?_
      refine AW.pop_less (x := (5, _)) (lv' := [(0, _), (1, _), (2, _), (3, _), (4, _)]) ?_
      have ze : sY (f_fb I A) (f_cost I A L) based x s b = b := if_pos zc37
      rw [fl, ze] at hk
      exact ih hb (show s + 1 + m = 7 by omega) hk
    · skip
      refine a_aload_n (i := 0) q40_40 rfl rfl ?_
      refine a_iload q40_41 rfl ?_
      refine a_cv1 q40_43 rfl rfl ⟨rfl, rfl⟩ rfl ?_
      refine c_X6_isHopeless_1 ?_
      refine ck_r ?_
      refine a_if_eq (tgt := 52) q40_46 (by decide) (fun zc46 => ?_) (fun zc46 => ?_)
      · skip
        refine a_iconst (v := (-1)) q40_52 (by decide) ?_
        refine a_istore (i := 6) (lv' := [(0, _), (1, _), (2, _), (3, _), (4, _), (5, _), (6, _)]) q40_53 rfl rfl ?_
        refine l_colour 7 (s := 0) hb rfl ?_
        refine a_iinc (v := xI (s + 1)) (lv' := [(0, _), (1, _), (2, _), (3, _), (4, _)]) q40_103 rfl rfl (xI_1 (s)) rfl ?_
        refine a_goto (tgt := 18) q40_106 (by decide) ?_
        
        have ze : sY (f_fb I A) (f_cost I A L) based x s b = sCols (f_fb I A) (f_cost I A L) (g_wCol based 1 (xI s)) b := (if_neg zc37).trans (if_neg (b2i_z.mp zc46))
        rw [fl, ze] at hk
        exact ih (sCols_le _ _ hb) (show s + 1 + m = 7 by omega) hk
      · skip
        refine a_goto (tgt := 103) q40_49 (by decide) ?_
        refine a_iinc (v := xI (s + 1)) (lv' := [(0, _), (1, _), (2, _), (3, _), (4, _), (5, _)]) q40_103 rfl rfl (xI_1 (s)) rfl ?_
        refine a_goto (tgt := 18) q40_106 (by decide) ?_
        refine AW.pop_less (x := (5, _)) (lv' := [(0, _), (1, _), (2, _), (3, _), (4, _)]) ?_
        have ze : sY (f_fb I A) (f_cost I A L) based x s b = b := (if_neg zc37).trans (if_pos (b2i_nz.mp zc46))
        rw [fl, ze] at hk
        exact ih hb (show s + 1 + m = 7 by omega) hk

theorem l_x (m : Nat) : ∀ {X : XS} {I : Nat → Int32} {A : Nat → Nat → Int32} {L : Nat → Nat → Int64} {O : AH} {Q : AO → AH → Prop} {b : BT} {bare : Int32} {s : Nat} (hb : b.1 ≤ 5) (hm : s + m = 7) (hq : Q (.inl none) (hpB I A L O (fl (sX (f_fb I A) (f_cost I A L) bare) m s b))), AW X 40 2 [(0, .ref 13), (1, .int bare), (2, .int (xI s))] [] (hpB I A L O b) 0 0 Q := by
  induction m with
  | zero =>
    intro X I A L O Q b bare s hb hm hq
    refine a_iload_n (i := 2) q40_2 rfl rfl ?_
    refine a_bipush (v := 6) q40_3 (by decide) ?_
    refine a_icmp_ge (tgt := 115) q40_5 (by decide) (fun zc5 => ?_) (fun zc5 => absurd (xI_7 (by omega)) zc5)
    refine a_return q40_115 rfl ?_
    exact hq
  | succ m ih =>
    intro X I A L O Q b bare s hb hm hq
    refine a_iload_n (i := 2) q40_2 rfl rfl ?_
    refine a_bipush (v := 6) q40_3 (by decide) ?_
    refine a_icmp_ge (tgt := 115) q40_5 (by decide) (fun zc5 => absurd zc5 (xI_lt (by omega))) (fun zc5 => ?_)
    refine a_iload_n (i := 1) q40_8 rfl rfl ?_
    refine a_iconst (v := 0) q40_9 (by decide) ?_
    refine a_iload_n (i := 2) q40_10 rfl rfl ?_
    refine a_cs3 q40_11 rfl ⟨rfl, rfl⟩ rfl ?_
    refine c_X1_withColumn ?_
    refine ck_r ?_
    refine a_istore_n (i := 3) (lv' := [(0, _), (1, _), (2, _), (3, _)]) q40_14 rfl rfl rfl ?_
    refine a_iconst (v := (-1)) q40_15 (by decide) ?_
    refine a_istore (i := 4) (lv' := [(0, _), (1, _), (2, _), (3, _), (4, _)]) q40_16 rfl rfl ?_
    refine l_y 7 (s := 0) hb rfl ?_
    refine a_iinc (v := xI (s + 1)) (lv' := [(0, _), (1, _), (2, _)]) q40_109 rfl rfl (xI_1 (s)) rfl ?_
    refine a_goto (tgt := 2) q40_112 (by decide) ?_
    exact ih (sX_le _ _ _ hb) (show s + 1 + m = 7 by omega) hq

theorem c_X6_searchFrom_1 {X : XS} {I : Nat → Int32} {A : Nat → Nat → Int32} {L : Nat → Nat → Int64} {O : AH} {Q : AO → AH → Prop} {b : BT} {c : Int32} (hb : b.1 ≤ 5) (hq : Q (.inl none) (hpB I A L O (sFrom (f_fb I A) (f_cost I A L) c b))) : Call X 40 [.ref 13, .int c] (hpB I A L O b) Q := by
  refine call_of (by decide) rfl rfl ?_
  refine a_iconst (v := (-1)) q40_0 (by decide) ?_
  refine a_istore_n (i := 2) (lv' := [(0, _), (1, _), (2, _)]) q40_1 rfl rfl rfl ?_
  exact l_x 7 (s := 0) hb rfl hq

theorem l_agg (m : Nat) : ∀ {X : XS} {I : Nat → Int32} {A : Nat → Nat → Int32} {L : Nat → Nat → Int64} {O : AH} {Q : AO → AH → Prop} {b : BT} {mk : Int32} {i s : Nat} (hb : b.1 ≤ 5) (hm : s + m = 3) (hk : AW X 39 59 [(0, .ref 13), (1, .ref 1000), (2, .int 3), (3, .int (nI i))] [] (hpB I A L O (fl (sAgg (f_fb I A) (f_cost I A L) mk) m s b)) 0 0 Q), AW X 39 36 [(0, .ref 13), (1, .ref 1000), (2, .int 3), (3, .int (nI i)), (4, .int mk), (5, .int (nI s))] [] (hpB I A L O b) 0 0 Q := by
  induction m with
  | zero =>
    intro X I A L O Q b mk i s hb hm hk
    refine a_iload q39_36 rfl ?_
    refine a_iconst (v := 2) q39_38 (by decide) ?_
    refine a_icmp_gt (tgt := 59) q39_39 (by decide) (fun zc39 => ?_) (fun zc39 => absurd (nI_lt (show 2 < s by omega) (by omega)) zc39)
    refine AW.pop_less (x := (5, _)) (lv' := [(0, _), (1, _), (2, _), (3, _), (4, _)]) ?_
    refine AW.pop_less (x := (4, _)) (lv' := [(0, _), (1, _), (2, _), (3, _)]) ?_
    exact hk
  | succ m ih =>
    intro X I A L O Q b mk i s hb hm hk
    refine a_iload q39_36 rfl ?_
    refine a_iconst (v := 2) q39_38 (by decide) ?_
    refine a_icmp_gt (tgt := 59) q39_39 (by decide) (fun zc39 => absurd zc39 (nI_nlt (show s ≤ 2 by omega) (by decide))) (fun zc39 => ?_)
    refine a_aload_n (i := 0) q39_42 rfl rfl ?_
    refine a_iload q39_43 rfl ?_
    refine a_iload q39_45 rfl ?_
    refine a_cs2 q39_47 rfl ⟨rfl, rfl⟩ rfl ?_
    refine c_X1_bare ?_
    refine ck_r ?_
    refine a_cv1 q39_50 rfl rfl ⟨rfl, rfl⟩ rfl ?_
    refine c_X6_searchFrom_1 hb ?_
    refine ck_v ?_
    refine a_iinc (v := nI (s + 1)) (lv' := [(0, _), (1, _), (2, _), (3, _), (4, _), (5, _)]) q39_53 rfl rfl (nI_1 (s)) rfl ?_
    refine a_goto (tgt := 36) q39_56 (by decide) ?_
    exact ih (sFrom_le _ _ hb) (show s + 1 + m = 3 by omega) hk

theorem l_mark (m : Nat) : ∀ {X : XS} {I : Nat → Int32} {A : Nat → Nat → Int32} {L : Nat → Nat → Int64} {O : AH} {Q : AO → AH → Prop} {b : BT} {s : Nat} (hb : b.1 ≤ 5) (hm : s + m = 3) (hk : AW X 39 65 [(0, .ref 13)] [] (hpB I A L O (fl (sMark (f_fb I A) (f_cost I A L)) m s b)) 0 0 Q), AW X 39 23 [(0, .ref 13), (1, .ref 1000), (2, .int 3), (3, .int (nI s))] [] (hpB I A L O b) 0 0 Q := by
  induction m with
  | zero =>
    intro X I A L O Q b s hb hm hk
    refine a_iload_n (i := 3) q39_23 rfl rfl ?_
    refine a_iload_n (i := 2) q39_24 rfl rfl ?_
    refine a_icmp_ge (tgt := 65) q39_25 (by decide) (fun zc25 => ?_) (fun zc25 => absurd (nI_le (show 3 ≤ s by omega) (by omega)) zc25)
    refine AW.pop_less (x := (3, _)) (lv' := [(0, _), (1, _), (2, _)]) ?_
    refine AW.pop_less (x := (2, _)) (lv' := [(0, _), (1, _)]) ?_
    refine AW.pop_less (x := (1, _)) (lv' := [(0, _)]) ?_
    exact hk
  | succ m ih =>
    intro X I A L O Q b s hb hm hk
    refine a_iload_n (i := 3) q39_23 rfl rfl ?_
    refine a_iload_n (i := 2) q39_24 rfl rfl ?_
    refine a_icmp_ge (tgt := 65) q39_25 (by decide) (fun zc25 => absurd zc25 (nI_ge (show s < 3 by omega) (by decide))) (fun zc25 => ?_)
    refine a_aload_n (i := 1) q39_28 rfl rfl ?_
    refine a_iload_n (i := 3) q39_29 rfl rfl ?_
    refine a_cald_ro q39_30 (nI_vp (by omega) (by decide)) ?_
    refine AW.ti (show _ = ro_m s by rw [nI_cl (n := 3) (by omega) (by decide)]) ?_
    refine a_istore (i := 4) (lv' := [(0, _), (1, _), (2, _), (3, _), (4, _)]) q39_31 rfl rfl ?_
    refine a_iconst (v := 0) q39_33 (by decide) ?_
    refine a_istore (i := 5) (lv' := [(0, _), (1, _), (2, _), (3, _), (4, _), (5, _)]) q39_34 rfl rfl ?_
    refine l_agg 3 (s := 0) hb rfl ?_
    refine a_iinc (v := nI (s + 1)) (lv' := [(0, _), (1, _), (2, _), (3, _)]) q39_59 rfl rfl (nI_1 (s)) rfl ?_
    refine a_goto (tgt := 23) q39_62 (by decide) ?_
    exact ih (sMark_le _ _ hb) (show s + 1 + m = 3 by omega) hk

theorem c_X6_ranking {X : XS} {I : Nat → Int32} {A : Nat → Nat → Int32} {L : Nat → Nat → Int64} {O : AH} {Q : AO → AH → Prop}  (h0 : I 6 = 0 → Q (.inl (some (.ref 14))) (hp I A L O)) (h1 : ¬ I 6 = 0 → Q (.inl (some (.ref 14))) (hpB (va_up I 6 0) A L O (sAll (f_fb I A) (f_cost I A L) (0, L 14)))) : Call X 39 [.ref 13] (hp I A L O) Q := by
  refine call_of (by decide) rfl rfl ?_
  refine a_aload_n (i := 0) q39_0 rfl rfl ?_
  refine a_getfield q39_1 rfl rfl ?_
  refine a_if_eq (tgt := 70) q39_4 (by decide) (fun zc4 => ?_) (fun zc4 => ?_)
  · skip
    refine a_aload_n (i := 0) q39_70 rfl rfl ?_
    refine a_getfield q39_71 rfl rfl ?_
    refine a_areturn q39_74 ⟨_, rfl, Or.inl ⟨_, rfl⟩⟩ ?_
    exact h0 zc4
  · skip
    refine a_aload_n (i := 0) q39_7 rfl rfl ?_
    refine a_getfield q39_8 rfl rfl ?_
    refine a_cv0 q39_11 rfl rfl ⟨rfl, rfl⟩ rfl ?_
    refine c_X0_clear_1 ?_
    refine ck_v ?_
    refine a_getstatic q39_14 ?_
    refine a_astore_n (i := 1) (lv' := [(0, _), (1, _)]) q39_17 rfl rfl rfl ?_
    refine a_aload_n (i := 1) q39_18 rfl rfl ?_
    refine a_alen_ro (j := 0) q39_19 rfl (by decide) rfl ?_
    refine a_istore_n (i := 2) (lv' := [(0, _), (1, _), (2, _)]) q39_20 rfl rfl rfl ?_
    refine a_iconst (v := 0) q39_21 (by decide) ?_
    refine a_istore_n (i := 3) (lv' := [(0, _), (1, _), (2, _), (3, _)]) q39_22 rfl rfl rfl ?_
    refine l_mark (I := I) (L := L) (b := (0, L 14)) 3 (s := 0) (Nat.zero_le 5) rfl ?_
    refine a_aload_n (i := 0) q39_65 rfl rfl ?_
    refine a_iconst (v := 0) q39_66 (by decide) ?_
    refine a_putfield q39_67 rfl rfl rfl rfl ?_
    refine AW.hp (h' := hpB (va_up I 6 0) A L O (sAll (f_fb I A) (f_cost I A L) (0, L 14))) rfl ?_
    refine a_aload_n (i := 0) q39_70 rfl rfl ?_
    refine a_getfield q39_71 rfl rfl ?_
    refine a_areturn q39_74 ⟨_, rfl, Or.inl ⟨_, rfl⟩⟩ ?_
    exact h1 zc4

theorem c_X6_spoil {X : XS} {I : Nat → Int32} {A : Nat → Nat → Int32} {L : Nat → Nat → Int64} {O : AH} {Q : AO → AH → Prop}  (hq : Q (.inl none) (hp (va_up I 6 1) A L O)) : Call X 38 [.ref 13] (hp I A L O) Q := by
  refine call_of (by decide) rfl rfl ?_
  refine a_aload_n (i := 0) q38_0 rfl rfl ?_
  refine a_iconst (v := 1) q38_1 (by decide) ?_
  refine a_putfield q38_2 rfl rfl rfl rfl ?_
  refine AW.hp (h' := hp (va_up I 6 1) A L O) rfl ?_
  refine a_return q38_5 rfl ?_
  exact hq
