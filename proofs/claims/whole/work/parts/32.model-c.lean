/-! charts of the model -/
theorem hpo {I : Nat → Int32} {A : Nat → Nat → Int32} {L : Nat → Nat → Int64} {O : Nat → UInt64} {o : Nat} (ho : o = 29 ∨ o = 30 ∨ o = 31) : (hp I A L O)[o]? = some (.inr (0, 6, .inl (A o))) := by
  rcases ho with rfl | rfl | rfl <;> rfl
def vch (f : Nat → Int32) : Prop := ∀ k, k < 4 → -1 ≤ f (2 + k) ∧ f (2 + k) < 6
def m_of (A : Nat → Nat → Int32) (f : Nat → Int32) (k : Nat) : Int32 := if f (2 + k) < 0 then -1 else A 25 (f (2 + k)).toNatClampNeg
theorem of_nn {A : Nat → Nat → Int32} {f : Nat → Int32} {k : Nat} (h : m_of A f k = 3) : ¬ f (2 + k) < 0 := by
  intro hh; rw [m_of, if_pos hh] at h; exact absurd h (by decide)
theorem ix28 {x : Int32} (k : Nat) (h0 : 0 ≤ x) (h6 : x < 6) : (4 : Int32) * x + nI k = nI (4 * x.toNatClampNeg + k) ∧ x.toNatClampNeg < 6 := by
  obtain ⟨j, hj, e⟩ := isCol_of ⟨h0, h6⟩
  rw [e, nI_cl (n := 6) hj (by decide), nI_ix4]; exact ⟨rfl, hj⟩
def bv (p : Prop) [Decidable p] (v : Int32) : Int32 := if p then v else 0
theorem c_X10_of {X : XS} {I : Nat → Int32} {A : Nat → Nat → Int32} {L : Nat → Nat → Int64} {O : Nat → UInt64} {Q : AO → AH → Prop} {o : Nat} (ho : o = 29 ∨ o = 30 ∨ o = 31) (hv : vch (A o)) {k : Nat} (hk : k < 4) (hq : Q (.inl (some (.int (m_of A (A o) k)))) (hp I A L O)) : Call X 165 [.ref 21, .ref o, .int (nI k)] (hp I A L O) Q := by
  refine call_of (by decide) rfl rfl ?_
  refine a_aload_n (i := 1) q165_0 rfl rfl ?_
  refine a_iconst (v := 2) q165_1 (by decide) ?_
  refine a_iload_n (i := 2) q165_2 rfl rfl ?_
  refine a_iadd q165_3 ?_
  refine a_iald' (j := 2 + k) q165_4 (hpo ho) (nI_add 2 k) (by omega) (by decide) ?_
  refine a_if_ge (tgt := 12) q165_5 (by decide) (fun zc5 => ?_) (fun zc5 => ?_)
  · skip
    refine a_aload_n (i := 0) q165_12 rfl rfl ?_
    refine a_getfield q165_13 rfl rfl ?_
    refine a_aload_n (i := 1) q165_16 rfl rfl ?_
    refine a_iconst (v := 2) q165_17 (by decide) ?_
    refine a_iload_n (i := 2) q165_18 rfl rfl ?_
    refine a_iadd q165_19 ?_
    refine a_iald' (j := 2 + k) q165_20 (hpo ho) (nI_add 2 k) (by omega) (by decide) ?_
    refine a_iald q165_21 rfl (vpi (N := 6) (i_nlt.mpr zc5) (i_nle.mpr (hv k hk).2) rfl) ?_
    refine a_ireturn q165_22 (nr_int rfl _) ?_
    exact lfi hq (by rw [m_of, if_neg (i_nlt.mpr zc5)])
  · skip
    refine a_iconst (v := (-1)) q165_8 (by decide) ?_
    refine a_goto (tgt := 22) q165_9 (by decide) ?_
    refine a_ireturn q165_22 (nr_int rfl _) ?_
    exact lfi hq (by rw [m_of, if_pos (i_nle.mp zc5)])

abbrev wshC (A : Nat → Nat → Int32) (f : Nat → Int32) (e : Nat) : Prop := A 27 e = 0 ∨ f 2 = nI e ∨ f 3 = nI e ∨ f 4 = nI e ∨ f 5 = nI e
abbrev wshM (w : Int32) (A : Nat → Nat → Int32) (f : Nat → Int32) (c : Nat) : Prop := (w = 45 ∨ w = g_named (f 0)) ∧ ∀ e, e < c → wshC A f e
theorem wshM_s (w : Int32) (A : Nat → Nat → Int32) (f : Nat → Int32) (c : Nat) : wshM w A f (c + 1) ↔ wshM w A f c ∧ wshC A f c := by
  refine ⟨fun h => ⟨⟨h.1, fun e he => h.2 e (by omega)⟩, h.2 c (by omega)⟩, fun h => ⟨h.1.1, fun e he => ?_⟩⟩
  by_cases zz : e = c
  · rw [zz]; exact h.2
  · exact h.1.2 e (by omega)
theorem l_mwsh (m : Nat) : ∀ {X : XS} {I : Nat → Int32} {A : Nat → Nat → Int32} {L : Nat → Nat → Int64} {O : Nat → UInt64} {Q : AO → AH → Prop} {o c : Nat} (ho : o = 29 ∨ o = 30 ∨ o = 31) (hm : c + m = 6) (hq : Q (.inl (some (.int (b2i (wshM (I 27) A (A o) 6))))) (hp I A L O)), AW X 166 49 [(0, .ref 21), (1, .ref o), (2, .int (b2i (wshM (I 27) A (A o) c))), (3, .int (nI c))] [] (hp I A L O) 0 0 Q := by
  induction m with
  | zero =>
    intro X I A L O Q o c ho hm hq
    refine a_iload_n (i := 3) q166_49 rfl rfl ?_
    refine a_bipush (v := 6) q166_50 (by decide) ?_
    refine a_icmp_ge (tgt := 106) q166_52 (by decide) (fun zc52 => ?_) (fun zc52 => absurd (nI_le (show 6 ≤ c by omega) (by omega)) zc52)
    refine a_iload_n (i := 2) q166_106 rfl rfl ?_
    refine a_ireturn q166_107 (nr_bool rfl b2i_01) ?_
    have zr : c = 6 := by omega
    subst zr
    exact hq
  | succ m ih =>
    intro X I A L O Q o c ho hm hq
    refine a_iload_n (i := 3) q166_49 rfl rfl ?_
    refine a_bipush (v := 6) q166_50 (by decide) ?_
    refine a_icmp_ge (tgt := 106) q166_52 (by decide) (fun zc52 => absurd zc52 (nI_ge (show c < 6 by omega) (by decide))) (fun zc52 => ?_)
    refine a_iload_n (i := 2) q166_55 rfl rfl ?_
    refine AW.cut 98 (b2i (wshC A (A o) c)) (fun zk98 => ?_) ?_
    · skip
      refine a_aload_n (i := 0) q166_56 rfl rfl ?_
      refine a_getfield q166_57 rfl rfl ?_
      refine a_iload_n (i := 3) q166_60 rfl rfl ?_
      refine a_zald' (j := c) q166_61 rfl rfl (by omega) (by decide) ?_
      refine a_if_eq (tgt := 93) q166_62 (by decide) (fun zc62 => ?_) (fun zc62 => ?_)
      · skip
        refine a_iconst (v := 1) q166_93 (by decide) ?_
        refine a_goto (tgt := 98) q166_94 (by decide) ?_
        exact cutv zk98 (b2i_t (Or.inl zc62))
      · skip
        refine a_aload_n (i := 1) q166_65 rfl rfl ?_
        refine a_iconst (v := 2) q166_66 (by decide) ?_
        refine a_iald' (j := 2) q166_67 (hpo ho) rfl (by decide) (by decide) ?_
        refine a_iload_n (i := 3) q166_68 rfl rfl ?_
        refine a_icmp_eq (tgt := 93) q166_69 (by decide) (fun zc69 => ?_) (fun zc69 => ?_)
        · skip
          refine a_iconst (v := 1) q166_93 (by decide) ?_
          refine a_goto (tgt := 98) q166_94 (by decide) ?_
          exact cutv zk98 (b2i_t (Or.inr (Or.inl zc69)))
        · skip
          refine a_aload_n (i := 1) q166_72 rfl rfl ?_
          refine a_iconst (v := 3) q166_73 (by decide) ?_
          refine a_iald' (j := 3) q166_74 (hpo ho) rfl (by decide) (by decide) ?_
          refine a_iload_n (i := 3) q166_75 rfl rfl ?_
          refine a_icmp_eq (tgt := 93) q166_76 (by decide) (fun zc76 => ?_) (fun zc76 => ?_)
          · skip
            refine a_iconst (v := 1) q166_93 (by decide) ?_
            refine a_goto (tgt := 98) q166_94 (by decide) ?_
            exact cutv zk98 (b2i_t (Or.inr (Or.inr (Or.inl zc76))))
          · skip
            refine a_aload_n (i := 1) q166_79 rfl rfl ?_
            refine a_iconst (v := 4) q166_80 (by decide) ?_
            refine a_iald' (j := 4) q166_81 (hpo ho) rfl (by decide) (by decide) ?_
            refine a_iload_n (i := 3) q166_82 rfl rfl ?_
            refine a_icmp_eq (tgt := 93) q166_83 (by decide) (fun zc83 => ?_) (fun zc83 => ?_)
            · skip
              refine a_iconst (v := 1) q166_93 (by decide) ?_
              refine a_goto (tgt := 98) q166_94 (by decide) ?_
              exact cutv zk98 (b2i_t (Or.inr (Or.inr (Or.inr (Or.inl zc83)))))
            · skip
              refine a_aload_n (i := 1) q166_86 rfl rfl ?_
              refine a_iconst (v := 5) q166_87 (by decide) ?_
              refine a_iald' (j := 5) q166_88 (hpo ho) rfl (by decide) (by decide) ?_
              refine a_iload_n (i := 3) q166_89 rfl rfl ?_
              refine a_icmp_ne (tgt := 97) q166_90 (by decide) (fun zc90 => ?_) (fun zc90 => ?_)
              · skip
                refine a_iconst (v := 0) q166_97 (by decide) ?_
                exact cutv zk98 (b2i_f (fun zz => zz.elim zc62 (fun zz => zz.elim zc69 (fun zz => zz.elim zc76 (fun zz => zz.elim zc83 zc90)))))
              · skip
                refine a_iconst (v := 1) q166_93 (by decide) ?_
                refine a_goto (tgt := 98) q166_94 (by decide) ?_
                exact cutv zk98 (b2i_t (Or.inr (Or.inr (Or.inr (Or.inr (zc90))))))
    refine a_iand q166_98 ?_
    refine AW.ti (b2i_andI (wshM_s (I 27) A (A o) c)) ?_
    refine a_istore_n (i := 2) (lv' := [(0, _), (1, _), (2, _), (3, _)]) q166_99 rfl rfl rfl ?_
    refine a_iinc (v := nI (c + 1)) (lv' := [(0, _), (1, _), (2, _), (3, _)]) q166_100 rfl rfl (nI_1 (c)) rfl ?_
    refine a_goto (tgt := 49) q166_103 (by decide) ?_
    exact ih ho (show c + 1 + m = 6 by omega) hq

theorem c_X10_hasWishes {X : XS} {I : Nat → Int32} {A : Nat → Nat → Int32} {L : Nat → Nat → Int64} {O : Nat → UInt64} {Q : AO → AH → Prop} {o : Nat} (ho : o = 29 ∨ o = 30 ∨ o = 31) (hv : vch (A o)) (hq : Q (.inl (some (.int (b2i (wshM (I 27) A (A o) 6))))) (hp I A L O)) : Call X 166 [.ref 21, .ref o] (hp I A L O) Q := by
  refine call_of (by decide) rfl rfl ?_
  refine AW.cut 46 (b2i (wshM (I 27) A (A o) 0)) (fun zk46 => ?_) ?_
  · skip
    refine a_aload_n (i := 0) q166_0 rfl rfl ?_
    refine a_getfield q166_1 rfl rfl ?_
    refine a_bipush (v := 45) q166_4 (by decide) ?_
    refine a_icmp_eq (tgt := 41) q166_6 (by decide) (fun zc6 => ?_) (fun zc6 => ?_)
    · skip
      refine a_iconst (v := 1) q166_41 (by decide) ?_
      refine a_goto (tgt := 46) q166_42 (by decide) ?_
      exact cutv zk46 (b2i_t ⟨Or.inl zc6, fun _ zz => absurd zz (Nat.not_lt_zero _)⟩)
    · skip
      refine a_aload_n (i := 0) q166_9 rfl rfl ?_
      refine a_getfield q166_10 rfl rfl ?_
      refine a_aload_n (i := 1) q166_13 rfl rfl ?_
      refine a_iconst (v := 0) q166_14 (by decide) ?_
      refine a_iald' (j := 0) q166_15 (hpo ho) rfl (by decide) (by decide) ?_
      refine a_if_ne (tgt := 24) q166_16 (by decide) (fun zc16 => ?_) (fun zc16 => ?_)
      · skip
        refine a_aload_n (i := 1) q166_24 rfl rfl ?_
        refine a_iconst (v := 0) q166_25 (by decide) ?_
        refine a_iald' (j := 0) q166_26 (hpo ho) rfl (by decide) (by decide) ?_
        refine a_iconst (v := 1) q166_27 (by decide) ?_
        refine a_icmp_ne (tgt := 36) q166_28 (by decide) (fun zc28 => ?_) (fun zc28 => ?_)
        · skip
          refine a_bipush (v := 112) q166_36 (by decide) ?_
          refine a_icmp_ne (tgt := 45) q166_38 (by decide) (fun zc38 => ?_) (fun zc38 => ?_)
          · skip
            refine a_iconst (v := 0) q166_45 (by decide) ?_
            exact cutv zk46 (b2i_f (fun zz => zz.1.elim zc6 (fun ze => zc38 (by rw [ze, g_named, if_neg zc16, if_neg zc28]))))
          · skip
            refine a_iconst (v := 1) q166_41 (by decide) ?_
            refine a_goto (tgt := 46) q166_42 (by decide) ?_
            exact cutv zk46 (b2i_t ⟨Or.inr (by rw [g_named, if_neg zc16, if_neg zc28]; exact zc38), fun _ zz => absurd zz (Nat.not_lt_zero _)⟩)
        · skip
          refine a_bipush (v := 108) q166_31 (by decide) ?_
          refine a_goto (tgt := 38) q166_33 (by decide) ?_
          refine a_icmp_ne (tgt := 45) q166_38 (by decide) (fun zc38 => ?_) (fun zc38 => ?_)
          · skip
            refine a_iconst (v := 0) q166_45 (by decide) ?_
            exact cutv zk46 (b2i_f (fun zz => zz.1.elim zc6 (fun ze => zc38 (by rw [ze, g_named, if_neg zc16, if_pos zc28]))))
          · skip
            refine a_iconst (v := 1) q166_41 (by decide) ?_
            refine a_goto (tgt := 46) q166_42 (by decide) ?_
            exact cutv zk46 (b2i_t ⟨Or.inr (by rw [g_named, if_neg zc16, if_pos zc28]; exact zc38), fun _ zz => absurd zz (Nat.not_lt_zero _)⟩)
      · skip
        refine a_bipush (v := 98) q166_19 (by decide) ?_
        refine a_goto (tgt := 38) q166_21 (by decide) ?_
        refine a_icmp_ne (tgt := 45) q166_38 (by decide) (fun zc38 => ?_) (fun zc38 => ?_)
        · skip
          refine a_iconst (v := 0) q166_45 (by decide) ?_
          exact cutv zk46 (b2i_f (fun zz => zz.1.elim zc6 (fun ze => zc38 (by rw [ze, g_named, if_pos zc16]))))
        · skip
          refine a_iconst (v := 1) q166_41 (by decide) ?_
          refine a_goto (tgt := 46) q166_42 (by decide) ?_
          exact cutv zk46 (b2i_t ⟨Or.inr (by rw [g_named, if_pos zc16]; exact zc38), fun _ zz => absurd zz (Nat.not_lt_zero _)⟩)
  refine a_istore_n (i := 2) (lv' := [(0, _), (1, _), (2, _)]) q166_46 rfl rfl rfl ?_
  refine a_iconst (v := 0) q166_47 (by decide) ?_
  refine a_istore_n (i := 3) (lv' := [(0, _), (1, _), (2, _), (3, _)]) q166_48 rfl rfl rfl ?_
  exact l_mwsh 6 (c := 0) ho rfl hq

abbrev m_dd (A : Nat → Nat → Int32) (f : Nat → Int32) (k : Nat) : Prop := 0 ≤ m_of A f k ∧ m_of A f k ≤ 1
abbrev m_oo (A : Nat → Nat → Int32) (f : Nat → Int32) (k : Nat) : Prop := 0 ≤ f (2 + k) ∧ ¬ A 28 (4 * (f (2 + k)).toNatClampNeg + k) = 0
abbrev m_dead (A : Nat → Nat → Int32) (f : Nat → Int32) : Prop := ((m_dd A f 0 ∨ m_dd A f 1) ∨ m_dd A f 2) ∨ m_dd A f 3
abbrev m_off (A : Nat → Nat → Int32) (f : Nat → Int32) : Prop := ((m_oo A f 0 ∨ m_oo A f 1) ∨ m_oo A f 2) ∨ m_oo A f 3
abbrev m_grp (A : Nat → Nat → Int32) (f : Nat → Int32) : Prop := m_of A f 0 = 3 ∨ m_of A f 0 = 2
abbrev m_b4 (A : Nat → Nat → Int32) (f : Nat → Int32) : Prop := f 0 = 0 ∧ ¬ (m_grp A f ∧ (m_of A f 1 = 4 ∨ f 1 = 1))
abbrev m_b5 (A : Nat → Nat → Int32) (f : Nat → Int32) : Prop := f 0 = 1 ∧ ¬ ((m_of A f 0 = 2 ∨ m_of A f 0 = 4) ∧ (m_of A f 1 = 4 ∨ f 1 = 1))
def m_fb (w : Int32) (A : Nat → Nat → Int32) (f : Nat → Int32) : Int32 :=
  if (f 2 < 0 ∧ f 3 < 0) ∨ m_dead A f then (if m_dead A f ∧ (0 ≤ f 2 ∨ 0 ≤ f 3) then 2 else 1) else
  if 0 ≤ f 5 ∧ ¬ (m_of A f 3 = 4 ∧ f 0 = 2) then 3 else if m_b4 A f ∨ m_b5 A f then (if m_b4 A f then 4 else 5) else
  if f 1 = 1 ∧ 0 ≤ f 3 then 6 else if f 1 = 2 ∧ ¬ (m_of A f 1 = 4 ∧ m_grp A f) then 7 else if m_off A f then 8 else if wshM w A f 6 then 0 else 9
theorem false_orI {p : Prop} : p ↔ False ∨ p := ⟨Or.inr, fun h => h.elim False.elim id⟩
theorem true_andI {p : Prop} : p ↔ True ∧ p := ⟨fun h => ⟨trivial, h⟩, fun h => h.2⟩
theorem c_X10_broken {X : XS} {I : Nat → Int32} {A : Nat → Nat → Int32} {L : Nat → Nat → Int64} {O : Nat → UInt64} {Q : AO → AH → Prop} {o : Nat} (ho : o = 29 ∨ o = 30 ∨ o = 31) (hv : vch (A o)) (hq : Q (.inl (some (.int (m_fb (I 27) A (A o))))) (hp I A L O)) : Call X 167 [.ref 21, .ref o] (hp I A L O) Q := by
  refine call_of (by decide) rfl rfl ?_
  refine a_iconst (v := 0) q167_0 (by decide) ?_
  refine a_istore_n (i := 2) (lv' := [(0, _), (1, _), (2, _)]) q167_1 rfl rfl rfl ?_
  refine a_iconst (v := 0) q167_2 (by decide) ?_
  refine a_istore_n (i := 3) (lv' := [(0, _), (1, _), (2, _), (3, _)]) q167_3 rfl rfl rfl ?_
  refine a_iconst (v := 0) q167_4 (by decide) ?_
  refine a_istore (i := 4) (lv' := [(0, _), (1, _), (2, _), (3, _), (4, _)]) q167_5 rfl rfl ?_
  refine a_iload q167_7 rfl ?_
  refine a_iconst (v := 4) q167_9 (by decide) ?_
  refine a_icmp_ge (tgt := 70) q167_10 (by decide) (fun zc10 => absurd zc10 (by decide)) (fun zc10 => ?_)
  refine a_iload_n (i := 2) q167_13 rfl rfl ?_
  refine a_aload_n (i := 0) q167_14 rfl rfl ?_
  refine a_aload_n (i := 1) q167_15 rfl rfl ?_
  refine a_iload q167_16 rfl ?_
  refine a_cv2 q167_18 rfl rfl ⟨rfl, rfl⟩ rfl ?_
  refine c_X10_of (k := 0) ho hv (by decide) ?_
  refine ck_r ?_
  refine a_iconst (v := 0) q167_21 (by decide) ?_
  refine a_iconst (v := 1) q167_22 (by decide) ?_
  refine a_cs3 q167_23 rfl ⟨rfl, rfl⟩ rfl ?_
  refine c_X10_isIn ?_
  refine ck_r ?_
  refine a_ior q167_26 ?_
  refine AW.ti (b2i_orI (p := False) (q := m_dd A (A o) 0) (r := m_dd A (A o) 0) false_orI) ?_
  refine a_istore_n (i := 2) (lv' := [(0, _), (1, _), (2, _), (3, _), (4, _)]) q167_27 rfl rfl rfl ?_
  refine a_iload_n (i := 3) q167_28 rfl rfl ?_
  refine AW.cut 62 (b2i (m_oo A (A o) 0)) (fun zk62 => ?_) ?_
  · skip
    refine a_aload_n (i := 1) q167_29 rfl rfl ?_
    refine a_iconst (v := 2) q167_30 (by decide) ?_
    refine a_iload q167_31 rfl ?_
    refine a_iadd q167_33 ?_
    refine a_iald' (j := 2 + 0) q167_34 (hpo ho) (nI_add 2 0) (by decide) (by decide) ?_
    refine a_if_lt (tgt := 61) q167_35 (by decide) (fun zc35 => ?_) (fun zc35 => ?_)
    · skip
      refine a_iconst (v := 0) q167_61 (by decide) ?_
      exact cutv zk62 (b2i_f (fun zz => absurd zz.1 (i_nle.mpr zc35)))
    · skip
      refine a_aload_n (i := 0) q167_38 rfl rfl ?_
      refine a_getfield q167_39 rfl rfl ?_
      refine a_iconst (v := 4) q167_42 (by decide) ?_
      refine a_aload_n (i := 1) q167_43 rfl rfl ?_
      refine a_iconst (v := 2) q167_44 (by decide) ?_
      refine a_iload q167_45 rfl ?_
      refine a_iadd q167_47 ?_
      refine a_iald' (j := 2 + 0) q167_48 (hpo ho) (nI_add 2 0) (by decide) (by decide) ?_
      refine a_imul q167_49 ?_
      refine a_iload q167_50 rfl ?_
      refine a_iadd q167_52 ?_
      have zix := ix28 0 (i_nlt.mp zc35) (hv 0 (by decide)).2
      refine a_zald' (j := 4 * (A o (2 + 0)).toNatClampNeg + 0) q167_53 rfl zix.1 (by have := zix.2; omega) (by decide) ?_
      refine a_if_eq (tgt := 61) q167_54 (by decide) (fun zc54 => ?_) (fun zc54 => ?_)
      · skip
        refine a_iconst (v := 0) q167_61 (by decide) ?_
        exact cutv zk62 (b2i_f (fun zz => zz.2 zc54))
      · skip
        refine a_iconst (v := 1) q167_57 (by decide) ?_
        refine a_goto (tgt := 62) q167_58 (by decide) ?_
        exact cutv zk62 (b2i_t ⟨i_nlt.mp zc35, zc54⟩)
  refine a_ior q167_62 ?_
  refine AW.ti (b2i_orI (p := False) (q := m_oo A (A o) 0) (r := m_oo A (A o) 0) false_orI) ?_
  refine a_istore_n (i := 3) (lv' := [(0, _), (1, _), (2, _), (3, _), (4, _)]) q167_63 rfl rfl rfl ?_
  refine a_iinc (v := nI (0 + 1)) (lv' := [(0, _), (1, _), (2, _), (3, _), (4, _)]) q167_64 rfl rfl (nI_1 (0)) rfl ?_
  refine a_goto (tgt := 7) q167_67 (by decide) ?_
  refine a_iload q167_7 rfl ?_
  refine a_iconst (v := 4) q167_9 (by decide) ?_
  refine a_icmp_ge (tgt := 70) q167_10 (by decide) (fun zc10_1 => absurd zc10_1 (by decide)) (fun zc10_1 => ?_)
  refine a_iload_n (i := 2) q167_13 rfl rfl ?_
  refine a_aload_n (i := 0) q167_14 rfl rfl ?_
  refine a_aload_n (i := 1) q167_15 rfl rfl ?_
  refine a_iload q167_16 rfl ?_
  refine a_cv2 q167_18 rfl rfl ⟨rfl, rfl⟩ rfl ?_
  refine c_X10_of (k := 1) ho hv (by decide) ?_
  refine ck_r ?_
  refine a_iconst (v := 0) q167_21 (by decide) ?_
  refine a_iconst (v := 1) q167_22 (by decide) ?_
  refine a_cs3 q167_23 rfl ⟨rfl, rfl⟩ rfl ?_
  refine c_X10_isIn ?_
  refine ck_r ?_
  refine a_ior q167_26 ?_
  refine AW.ti (b2i_orI (p := m_dd A (A o) 0) (q := m_dd A (A o) 1) (r := m_dd A (A o) 0 ∨ m_dd A (A o) 1) Iff.rfl) ?_
  refine a_istore_n (i := 2) (lv' := [(0, _), (1, _), (2, _), (3, _), (4, _)]) q167_27 rfl rfl rfl ?_
  refine a_iload_n (i := 3) q167_28 rfl rfl ?_
  refine AW.cut 62 (b2i (m_oo A (A o) 1)) (fun zk62 => ?_) ?_
  · skip
    refine a_aload_n (i := 1) q167_29 rfl rfl ?_
    refine a_iconst (v := 2) q167_30 (by decide) ?_
    refine a_iload q167_31 rfl ?_
    refine a_iadd q167_33 ?_
    refine a_iald' (j := 2 + 1) q167_34 (hpo ho) (nI_add 2 1) (by decide) (by decide) ?_
    refine a_if_lt (tgt := 61) q167_35 (by decide) (fun zc35 => ?_) (fun zc35 => ?_)
    · skip
      refine a_iconst (v := 0) q167_61 (by decide) ?_
      exact cutv zk62 (b2i_f (fun zz => absurd zz.1 (i_nle.mpr zc35)))
    · skip
      refine a_aload_n (i := 0) q167_38 rfl rfl ?_
      refine a_getfield q167_39 rfl rfl ?_
      refine a_iconst (v := 4) q167_42 (by decide) ?_
      refine a_aload_n (i := 1) q167_43 rfl rfl ?_
      refine a_iconst (v := 2) q167_44 (by decide) ?_
      refine a_iload q167_45 rfl ?_
      refine a_iadd q167_47 ?_
      refine a_iald' (j := 2 + 1) q167_48 (hpo ho) (nI_add 2 1) (by decide) (by decide) ?_
      refine a_imul q167_49 ?_
      refine a_iload q167_50 rfl ?_
      refine a_iadd q167_52 ?_
      have zix := ix28 1 (i_nlt.mp zc35) (hv 1 (by decide)).2
      refine a_zald' (j := 4 * (A o (2 + 1)).toNatClampNeg + 1) q167_53 rfl zix.1 (by have := zix.2; omega) (by decide) ?_
      refine a_if_eq (tgt := 61) q167_54 (by decide) (fun zc54 => ?_) (fun zc54 => ?_)
      · skip
        refine a_iconst (v := 0) q167_61 (by decide) ?_
        exact cutv zk62 (b2i_f (fun zz => zz.2 zc54))
      · skip
        refine a_iconst (v := 1) q167_57 (by decide) ?_
        refine a_goto (tgt := 62) q167_58 (by decide) ?_
        exact cutv zk62 (b2i_t ⟨i_nlt.mp zc35, zc54⟩)
  refine a_ior q167_62 ?_
  refine AW.ti (b2i_orI (p := m_oo A (A o) 0) (q := m_oo A (A o) 1) (r := m_oo A (A o) 0 ∨ m_oo A (A o) 1) Iff.rfl) ?_
  refine a_istore_n (i := 3) (lv' := [(0, _), (1, _), (2, _), (3, _), (4, _)]) q167_63 rfl rfl rfl ?_
  refine a_iinc (v := nI (1 + 1)) (lv' := [(0, _), (1, _), (2, _), (3, _), (4, _)]) q167_64 rfl rfl (nI_1 (1)) rfl ?_
  refine a_goto (tgt := 7) q167_67 (by decide) ?_
  refine a_iload q167_7 rfl ?_
  refine a_iconst (v := 4) q167_9 (by decide) ?_
  refine a_icmp_ge (tgt := 70) q167_10 (by decide) (fun zc10_2 => absurd zc10_2 (by decide)) (fun zc10_2 => ?_)
  refine a_iload_n (i := 2) q167_13 rfl rfl ?_
  refine a_aload_n (i := 0) q167_14 rfl rfl ?_
  refine a_aload_n (i := 1) q167_15 rfl rfl ?_
  refine a_iload q167_16 rfl ?_
  refine a_cv2 q167_18 rfl rfl ⟨rfl, rfl⟩ rfl ?_
  refine c_X10_of (k := 2) ho hv (by decide) ?_
  refine ck_r ?_
  refine a_iconst (v := 0) q167_21 (by decide) ?_
  refine a_iconst (v := 1) q167_22 (by decide) ?_
  refine a_cs3 q167_23 rfl ⟨rfl, rfl⟩ rfl ?_
  refine c_X10_isIn ?_
  refine ck_r ?_
  refine a_ior q167_26 ?_
  refine AW.ti (b2i_orI (p := m_dd A (A o) 0 ∨ m_dd A (A o) 1) (q := m_dd A (A o) 2) (r := (m_dd A (A o) 0 ∨ m_dd A (A o) 1) ∨ m_dd A (A o) 2) Iff.rfl) ?_
  refine a_istore_n (i := 2) (lv' := [(0, _), (1, _), (2, _), (3, _), (4, _)]) q167_27 rfl rfl rfl ?_
  refine a_iload_n (i := 3) q167_28 rfl rfl ?_
  refine AW.cut 62 (b2i (m_oo A (A o) 2)) (fun zk62 => ?_) ?_
  · skip
    refine a_aload_n (i := 1) q167_29 rfl rfl ?_
    refine a_iconst (v := 2) q167_30 (by decide) ?_
    refine a_iload q167_31 rfl ?_
    refine a_iadd q167_33 ?_
    refine a_iald' (j := 2 + 2) q167_34 (hpo ho) (nI_add 2 2) (by decide) (by decide) ?_
    refine a_if_lt (tgt := 61) q167_35 (by decide) (fun zc35 => ?_) (fun zc35 => ?_)
    · skip
      refine a_iconst (v := 0) q167_61 (by decide) ?_
      exact cutv zk62 (b2i_f (fun zz => absurd zz.1 (i_nle.mpr zc35)))
    · skip
      refine a_aload_n (i := 0) q167_38 rfl rfl ?_
      refine a_getfield q167_39 rfl rfl ?_
      refine a_iconst (v := 4) q167_42 (by decide) ?_
      refine a_aload_n (i := 1) q167_43 rfl rfl ?_
      refine a_iconst (v := 2) q167_44 (by decide) ?_
      refine a_iload q167_45 rfl ?_
      refine a_iadd q167_47 ?_
      refine a_iald' (j := 2 + 2) q167_48 (hpo ho) (nI_add 2 2) (by decide) (by decide) ?_
      refine a_imul q167_49 ?_
      refine a_iload q167_50 rfl ?_
      refine a_iadd q167_52 ?_
      have zix := ix28 2 (i_nlt.mp zc35) (hv 2 (by decide)).2
      refine a_zald' (j := 4 * (A o (2 + 2)).toNatClampNeg + 2) q167_53 rfl zix.1 (by have := zix.2; omega) (by decide) ?_
      refine a_if_eq (tgt := 61) q167_54 (by decide) (fun zc54 => ?_) (fun zc54 => ?_)
      · skip
        refine a_iconst (v := 0) q167_61 (by decide) ?_
        exact cutv zk62 (b2i_f (fun zz => zz.2 zc54))
      · skip
        refine a_iconst (v := 1) q167_57 (by decide) ?_
        refine a_goto (tgt := 62) q167_58 (by decide) ?_
        exact cutv zk62 (b2i_t ⟨i_nlt.mp zc35, zc54⟩)
  refine a_ior q167_62 ?_
  refine AW.ti (b2i_orI (p := m_oo A (A o) 0 ∨ m_oo A (A o) 1) (q := m_oo A (A o) 2) (r := (m_oo A (A o) 0 ∨ m_oo A (A o) 1) ∨ m_oo A (A o) 2) Iff.rfl) ?_
  refine a_istore_n (i := 3) (lv' := [(0, _), (1, _), (2, _), (3, _), (4, _)]) q167_63 rfl rfl rfl ?_
  refine a_iinc (v := nI (2 + 1)) (lv' := [(0, _), (1, _), (2, _), (3, _), (4, _)]) q167_64 rfl rfl (nI_1 (2)) rfl ?_
  refine a_goto (tgt := 7) q167_67 (by decide) ?_
  refine a_iload q167_7 rfl ?_
  refine a_iconst (v := 4) q167_9 (by decide) ?_
  refine a_icmp_ge (tgt := 70) q167_10 (by decide) (fun zc10_3 => absurd zc10_3 (by decide)) (fun zc10_3 => ?_)
  refine a_iload_n (i := 2) q167_13 rfl rfl ?_
  refine a_aload_n (i := 0) q167_14 rfl rfl ?_
  refine a_aload_n (i := 1) q167_15 rfl rfl ?_
  refine a_iload q167_16 rfl ?_
  refine a_cv2 q167_18 rfl rfl ⟨rfl, rfl⟩ rfl ?_
  refine c_X10_of (k := 3) ho hv (by decide) ?_
  refine ck_r ?_
  refine a_iconst (v := 0) q167_21 (by decide) ?_
  refine a_iconst (v := 1) q167_22 (by decide) ?_
  refine a_cs3 q167_23 rfl ⟨rfl, rfl⟩ rfl ?_
  refine c_X10_isIn ?_
  refine ck_r ?_
  refine a_ior q167_26 ?_
  refine AW.ti (b2i_orI (p := (m_dd A (A o) 0 ∨ m_dd A (A o) 1) ∨ m_dd A (A o) 2) (q := m_dd A (A o) 3) (r := ((m_dd A (A o) 0 ∨ m_dd A (A o) 1) ∨ m_dd A (A o) 2) ∨ m_dd A (A o) 3) Iff.rfl) ?_
  refine a_istore_n (i := 2) (lv' := [(0, _), (1, _), (2, _), (3, _), (4, _)]) q167_27 rfl rfl rfl ?_
  refine a_iload_n (i := 3) q167_28 rfl rfl ?_
  refine AW.cut 62 (b2i (m_oo A (A o) 3)) (fun zk62 => ?_) ?_
  · skip
    refine a_aload_n (i := 1) q167_29 rfl rfl ?_
    refine a_iconst (v := 2) q167_30 (by decide) ?_
    refine a_iload q167_31 rfl ?_
    refine a_iadd q167_33 ?_
    refine a_iald' (j := 2 + 3) q167_34 (hpo ho) (nI_add 2 3) (by decide) (by decide) ?_
    refine a_if_lt (tgt := 61) q167_35 (by decide) (fun zc35 => ?_) (fun zc35 => ?_)
    · skip
      refine a_iconst (v := 0) q167_61 (by decide) ?_
      exact cutv zk62 (b2i_f (fun zz => absurd zz.1 (i_nle.mpr zc35)))
    · skip
      refine a_aload_n (i := 0) q167_38 rfl rfl ?_
      refine a_getfield q167_39 rfl rfl ?_
      refine a_iconst (v := 4) q167_42 (by decide) ?_
      refine a_aload_n (i := 1) q167_43 rfl rfl ?_
      refine a_iconst (v := 2) q167_44 (by decide) ?_
      refine a_iload q167_45 rfl ?_
      refine a_iadd q167_47 ?_
      refine a_iald' (j := 2 + 3) q167_48 (hpo ho) (nI_add 2 3) (by decide) (by decide) ?_
      refine a_imul q167_49 ?_
      refine a_iload q167_50 rfl ?_
      refine a_iadd q167_52 ?_
      have zix := ix28 3 (i_nlt.mp zc35) (hv 3 (by decide)).2
      refine a_zald' (j := 4 * (A o (2 + 3)).toNatClampNeg + 3) q167_53 rfl zix.1 (by have := zix.2; omega) (by decide) ?_
      refine a_if_eq (tgt := 61) q167_54 (by decide) (fun zc54 => ?_) (fun zc54 => ?_)
      · skip
        refine a_iconst (v := 0) q167_61 (by decide) ?_
        exact cutv zk62 (b2i_f (fun zz => zz.2 zc54))
      · skip
        refine a_iconst (v := 1) q167_57 (by decide) ?_
        refine a_goto (tgt := 62) q167_58 (by decide) ?_
        exact cutv zk62 (b2i_t ⟨i_nlt.mp zc35, zc54⟩)
  refine a_ior q167_62 ?_
  refine AW.ti (b2i_orI (p := (m_oo A (A o) 0 ∨ m_oo A (A o) 1) ∨ m_oo A (A o) 2) (q := m_oo A (A o) 3) (r := ((m_oo A (A o) 0 ∨ m_oo A (A o) 1) ∨ m_oo A (A o) 2) ∨ m_oo A (A o) 3) Iff.rfl) ?_
  refine a_istore_n (i := 3) (lv' := [(0, _), (1, _), (2, _), (3, _), (4, _)]) q167_63 rfl rfl rfl ?_
  refine a_iinc (v := nI (3 + 1)) (lv' := [(0, _), (1, _), (2, _), (3, _), (4, _)]) q167_64 rfl rfl (nI_1 (3)) rfl ?_
  refine a_goto (tgt := 7) q167_67 (by decide) ?_
  refine a_iload q167_7 rfl ?_
  refine a_iconst (v := 4) q167_9 (by decide) ?_
  refine a_icmp_ge (tgt := 70) q167_10 (by decide) (fun zc10_4 => ?_) (fun zc10_4 => absurd (by decide) zc10_4)
  refine AW.cut 82 (b2i (A o 1 = 1)) (fun zk82 => ?_) ?_
  · skip
    refine a_aload_n (i := 1) q167_70 rfl rfl ?_
    refine a_iconst (v := 1) q167_71 (by decide) ?_
    refine a_iald' (j := 1) q167_72 (hpo ho) rfl (by decide) (by decide) ?_
    refine a_iconst (v := 1) q167_73 (by decide) ?_
    refine a_icmp_ne (tgt := 81) q167_74 (by decide) (fun zc74 => ?_) (fun zc74 => ?_)
    · skip
      refine a_iconst (v := 0) q167_81 (by decide) ?_
      exact cutv zk82 (b2i_f zc74)
    · skip
      refine a_iconst (v := 1) q167_77 (by decide) ?_
      refine a_goto (tgt := 82) q167_78 (by decide) ?_
      exact cutv zk82 (b2i_t zc74)
  refine a_istore (i := 4) (lv' := [(0, _), (1, _), (2, _), (3, _), (4, _)]) q167_82 rfl rfl ?_
  refine AW.cut 109 (b2i (m_grp A (A o))) (fun zk109 => ?_) ?_
  · skip
    refine a_aload_n (i := 0) q167_84 rfl rfl ?_
    refine a_aload_n (i := 1) q167_85 rfl rfl ?_
    refine a_iconst (v := 0) q167_86 (by decide) ?_
    refine a_cv2 q167_87 rfl rfl ⟨rfl, rfl⟩ rfl ?_
    refine c_X10_of (k := 0) ho hv (by decide) ?_
    refine ck_r ?_
    refine a_iconst (v := 3) q167_90 (by decide) ?_
    refine a_icmp_eq (tgt := 104) q167_91 (by decide) (fun zc91 => ?_) (fun zc91 => ?_)
    · skip
      refine a_iconst (v := 1) q167_104 (by decide) ?_
      refine a_goto (tgt := 109) q167_105 (by decide) ?_
      exact cutv zk109 (b2i_t (Or.inl zc91))
    · skip
      refine a_aload_n (i := 0) q167_94 rfl rfl ?_
      refine a_aload_n (i := 1) q167_95 rfl rfl ?_
      refine a_iconst (v := 0) q167_96 (by decide) ?_
      refine a_cv2 q167_97 rfl rfl ⟨rfl, rfl⟩ rfl ?_
      refine c_X10_of (k := 0) ho hv (by decide) ?_
      refine ck_r ?_
      refine a_iconst (v := 2) q167_100 (by decide) ?_
      refine a_icmp_ne (tgt := 108) q167_101 (by decide) (fun zc101 => ?_) (fun zc101 => ?_)
      · skip
        refine a_iconst (v := 0) q167_108 (by decide) ?_
        exact cutv zk109 (b2i_f (fun zz => zz.elim zc91 zc101))
      · skip
        refine a_iconst (v := 1) q167_104 (by decide) ?_
        refine a_goto (tgt := 109) q167_105 (by decide) ?_
        exact cutv zk109 (b2i_t (Or.inr zc101))
  refine a_istore (i := 5) (lv' := [(0, _), (1, _), (2, _), (3, _), (4, _), (5, _)]) q167_109 rfl rfl ?_
  refine AW.cut 126 (b2i (m_of A (A o) 1 = 4)) (fun zk126 => ?_) ?_
  · skip
    refine a_aload_n (i := 0) q167_111 rfl rfl ?_
    refine a_aload_n (i := 1) q167_112 rfl rfl ?_
    refine a_iconst (v := 1) q167_113 (by decide) ?_
    refine a_cv2 q167_114 rfl rfl ⟨rfl, rfl⟩ rfl ?_
    refine c_X10_of (k := 1) ho hv (by decide) ?_
    refine ck_r ?_
    refine a_iconst (v := 4) q167_117 (by decide) ?_
    refine a_icmp_ne (tgt := 125) q167_118 (by decide) (fun zc118 => ?_) (fun zc118 => ?_)
    · skip
      refine a_iconst (v := 0) q167_125 (by decide) ?_
      exact cutv zk126 (b2i_f zc118)
    · skip
      refine a_iconst (v := 1) q167_121 (by decide) ?_
      refine a_goto (tgt := 126) q167_122 (by decide) ?_
      exact cutv zk126 (b2i_t zc118)
  refine a_istore (i := 6) (lv' := [(0, _), (1, _), (2, _), (3, _), (4, _), (5, _), (6, _)]) q167_126 rfl rfl ?_
  refine AW.cut 154 (b2i (m_b4 A (A o))) (fun zk154 => ?_) ?_
  · skip
    refine a_aload_n (i := 1) q167_128 rfl rfl ?_
    refine a_iconst (v := 0) q167_129 (by decide) ?_
    refine a_iald' (j := 0) q167_130 (hpo ho) rfl (by decide) (by decide) ?_
    refine a_if_ne (tgt := 153) q167_131 (by decide) (fun zc131 => ?_) (fun zc131 => ?_)
    · skip
      refine a_iconst (v := 0) q167_153 (by decide) ?_
      exact cutv zk154 (b2i_f (fun zz => zc131 zz.1))
    · skip
      refine a_iload q167_134 rfl ?_
      refine a_if_eq (tgt := 149) q167_136 (by decide) (fun zc136 => ?_) (fun zc136 => ?_)
      · skip
        refine a_iconst (v := 1) q167_149 (by decide) ?_
        refine a_goto (tgt := 154) q167_150 (by decide) ?_
        exact cutv zk154 (b2i_t ⟨zc131, fun zz => b2i_z.mp zc136 zz.1⟩)
      · skip
        refine a_iload q167_139 rfl ?_
        refine a_if_ne (tgt := 153) q167_141 (by decide) (fun zc141 => ?_) (fun zc141 => ?_)
        · skip
          refine a_iconst (v := 0) q167_153 (by decide) ?_
          exact cutv zk154 (b2i_f (fun zz => zz.2 ⟨b2i_nz.mp zc136, Or.inl (b2i_nz.mp zc141)⟩))
        · skip
          refine a_iload q167_144 rfl ?_
          refine a_if_ne (tgt := 153) q167_146 (by decide) (fun zc146 => ?_) (fun zc146 => ?_)
          · skip
            refine a_iconst (v := 0) q167_153 (by decide) ?_
            exact cutv zk154 (b2i_f (fun zz => zz.2 ⟨b2i_nz.mp zc136, Or.inr (b2i_nz.mp zc146)⟩))
          · skip
            refine a_iconst (v := 1) q167_149 (by decide) ?_
            refine a_goto (tgt := 154) q167_150 (by decide) ?_
            exact cutv zk154 (b2i_t ⟨zc131, fun zz => zz.2.elim (b2i_z.mp zc141) (b2i_z.mp zc146)⟩)
  refine a_istore (i := 7) (lv' := [(0, _), (1, _), (2, _), (3, _), (4, _), (5, _), (6, _), (7, _)]) q167_154 rfl rfl ?_
  refine AW.cut 198 (b2i (m_b5 A (A o))) (fun zk198 => ?_) ?_
  · skip
    refine a_aload_n (i := 1) q167_156 rfl rfl ?_
    refine a_iconst (v := 0) q167_157 (by decide) ?_
    refine a_iald' (j := 0) q167_158 (hpo ho) rfl (by decide) (by decide) ?_
    refine a_iconst (v := 1) q167_159 (by decide) ?_
    refine a_icmp_ne (tgt := 197) q167_160 (by decide) (fun zc160 => ?_) (fun zc160 => ?_)
    · skip
      refine a_iconst (v := 0) q167_197 (by decide) ?_
      exact cutv zk198 (b2i_f (fun zz => zc160 zz.1))
    · skip
      refine a_aload_n (i := 0) q167_163 rfl rfl ?_
      refine a_aload_n (i := 1) q167_164 rfl rfl ?_
      refine a_iconst (v := 0) q167_165 (by decide) ?_
      refine a_cv2 q167_166 rfl rfl ⟨rfl, rfl⟩ rfl ?_
      refine c_X10_of (k := 0) ho hv (by decide) ?_
      refine ck_r ?_
      refine a_iconst (v := 2) q167_169 (by decide) ?_
      refine a_icmp_eq (tgt := 183) q167_170 (by decide) (fun zc170 => ?_) (fun zc170 => ?_)
      · skip
        refine a_iload q167_183 rfl ?_
        refine a_if_ne (tgt := 197) q167_185 (by decide) (fun zc185 => ?_) (fun zc185 => ?_)
        · skip
          refine a_iconst (v := 0) q167_197 (by decide) ?_
          exact cutv zk198 (b2i_f (fun zz => zz.2 ⟨(Or.inl zc170), Or.inl (b2i_nz.mp zc185)⟩))
        · skip
          refine a_iload q167_188 rfl ?_
          refine a_if_ne (tgt := 197) q167_190 (by decide) (fun zc190 => ?_) (fun zc190 => ?_)
          · skip
            refine a_iconst (v := 0) q167_197 (by decide) ?_
            exact cutv zk198 (b2i_f (fun zz => zz.2 ⟨(Or.inl zc170), Or.inr (b2i_nz.mp zc190)⟩))
          · skip
            refine a_iconst (v := 1) q167_193 (by decide) ?_
            refine a_goto (tgt := 198) q167_194 (by decide) ?_
            exact cutv zk198 (b2i_t ⟨zc160, fun zz => zz.2.elim (b2i_z.mp zc185) (b2i_z.mp zc190)⟩)
      · skip
        refine a_aload_n (i := 0) q167_173 rfl rfl ?_
        refine a_aload_n (i := 1) q167_174 rfl rfl ?_
        refine a_iconst (v := 0) q167_175 (by decide) ?_
        refine a_cv2 q167_176 rfl rfl ⟨rfl, rfl⟩ rfl ?_
        refine c_X10_of (k := 0) ho hv (by decide) ?_
        refine ck_r ?_
        refine a_iconst (v := 4) q167_179 (by decide) ?_
        refine a_icmp_ne (tgt := 193) q167_180 (by decide) (fun zc180 => ?_) (fun zc180 => ?_)
        · skip
          refine a_iconst (v := 1) q167_193 (by decide) ?_
          refine a_goto (tgt := 198) q167_194 (by decide) ?_
          exact cutv zk198 (b2i_t ⟨zc160, fun zz => zz.1.elim zc170 zc180⟩)
        · skip
          refine a_iload q167_183 rfl ?_
          refine a_if_ne (tgt := 197) q167_185 (by decide) (fun zc185 => ?_) (fun zc185 => ?_)
          · skip
            refine a_iconst (v := 0) q167_197 (by decide) ?_
            exact cutv zk198 (b2i_f (fun zz => zz.2 ⟨(Or.inr zc180), Or.inl (b2i_nz.mp zc185)⟩))
          · skip
            refine a_iload q167_188 rfl ?_
            refine a_if_ne (tgt := 197) q167_190 (by decide) (fun zc190 => ?_) (fun zc190 => ?_)
            · skip
              refine a_iconst (v := 0) q167_197 (by decide) ?_
              exact cutv zk198 (b2i_f (fun zz => zz.2 ⟨(Or.inr zc180), Or.inr (b2i_nz.mp zc190)⟩))
            · skip
              refine a_iconst (v := 1) q167_193 (by decide) ?_
              refine a_goto (tgt := 198) q167_194 (by decide) ?_
              exact cutv zk198 (b2i_t ⟨zc160, fun zz => zz.2.elim (b2i_z.mp zc185) (b2i_z.mp zc190)⟩)
  refine a_istore (i := 8) (lv' := [(0, _), (1, _), (2, _), (3, _), (4, _), (5, _), (6, _), (7, _), (8, _)]) q167_198 rfl rfl ?_
  refine AW.cutP 238 (¬ ((A o 2 < 0 ∧ A o 3 < 0) ∨ m_dead A (A o))) (fun zk238 => ?_) (fun zf238 => ?_)
  · skip
    refine a_aload_n (i := 1) q167_200 rfl rfl ?_
    refine a_iconst (v := 2) q167_201 (by decide) ?_
    refine a_iald' (j := 2) q167_202 (hpo ho) rfl (by decide) (by decide) ?_
    refine a_if_ge (tgt := 212) q167_203 (by decide) (fun zc203 => ?_) (fun zc203 => ?_)
    · skip
      refine a_iload_n (i := 2) q167_212 rfl rfl ?_
      refine a_if_eq (tgt := 238) q167_213 (by decide) (fun zc213 => ?_) (fun zc213 => ?_)
      · skip
        exact zk238 (fun zz => zz.elim (fun z2 => absurd z2.1 (i_nlt.mpr zc203)) (b2i_z.mp zc213))
      · skip
        refine a_iload_n (i := 2) q167_216 rfl rfl ?_
        refine a_if_eq (tgt := 236) q167_217 (by decide) (fun zc217 => ?_) (fun zc217 => ?_)
        · skip
          refine a_iconst (v := 1) q167_236 (by decide) ?_
          refine a_ireturn q167_237 (nr_int rfl _) ?_
          exact lfi hq (by unfold m_fb; rw [if_pos (Or.inr (b2i_nz.mp zc213)), if_neg (fun zz => b2i_z.mp zc217 zz.1)])
        · skip
          refine a_aload_n (i := 1) q167_220 rfl rfl ?_
          refine a_iconst (v := 2) q167_221 (by decide) ?_
          refine a_iald' (j := 2) q167_222 (hpo ho) rfl (by decide) (by decide) ?_
          refine a_if_ge (tgt := 232) q167_223 (by decide) (fun zc223 => ?_) (fun zc223 => ?_)
          · skip
            refine a_iconst (v := 2) q167_232 (by decide) ?_
            refine a_goto (tgt := 237) q167_233 (by decide) ?_
            refine a_ireturn q167_237 (nr_int rfl _) ?_
            exact lfi hq (by unfold m_fb; rw [if_pos (Or.inr (b2i_nz.mp zc213)), if_pos ⟨b2i_nz.mp zc217, Or.inl zc223⟩])
          · skip
            refine a_aload_n (i := 1) q167_226 rfl rfl ?_
            refine a_iconst (v := 3) q167_227 (by decide) ?_
            refine a_iald' (j := 3) q167_228 (hpo ho) rfl (by decide) (by decide) ?_
            refine a_if_lt (tgt := 236) q167_229 (by decide) (fun zc229 => ?_) (fun zc229 => ?_)
            · skip
              refine a_iconst (v := 1) q167_236 (by decide) ?_
              refine a_ireturn q167_237 (nr_int rfl _) ?_
              exact lfi hq (by unfold m_fb; rw [if_pos (Or.inr (b2i_nz.mp zc213)), if_neg (fun zz => zz.2.elim zc223 (fun z3 => absurd z3 (i_nle.mpr zc229)))])
            · skip
              refine a_iconst (v := 2) q167_232 (by decide) ?_
              refine a_goto (tgt := 237) q167_233 (by decide) ?_
              refine a_ireturn q167_237 (nr_int rfl _) ?_
              exact lfi hq (by unfold m_fb; rw [if_pos (Or.inr (b2i_nz.mp zc213)), if_pos ⟨b2i_nz.mp zc217, Or.inr (i_nlt.mp zc229)⟩])
    · skip
      refine a_aload_n (i := 1) q167_206 rfl rfl ?_
      refine a_iconst (v := 3) q167_207 (by decide) ?_
      refine a_iald' (j := 3) q167_208 (hpo ho) rfl (by decide) (by decide) ?_
      refine a_if_lt (tgt := 216) q167_209 (by decide) (fun zc209 => ?_) (fun zc209 => ?_)
      · skip
        refine a_iload_n (i := 2) q167_216 rfl rfl ?_
        refine a_if_eq (tgt := 236) q167_217 (by decide) (fun zc217 => ?_) (fun zc217 => ?_)
        · skip
          refine a_iconst (v := 1) q167_236 (by decide) ?_
          refine a_ireturn q167_237 (nr_int rfl _) ?_
          exact lfi hq (by unfold m_fb; rw [if_pos (Or.inl ⟨i_nle.mp zc203, zc209⟩), if_neg (fun zz => b2i_z.mp zc217 zz.1)])
        · skip
          refine a_aload_n (i := 1) q167_220 rfl rfl ?_
          refine a_iconst (v := 2) q167_221 (by decide) ?_
          refine a_iald' (j := 2) q167_222 (hpo ho) rfl (by decide) (by decide) ?_
          refine a_if_ge (tgt := 232) q167_223 (by decide) (fun zc223 => ?_) (fun zc223 => ?_)
          · skip
            refine a_iconst (v := 2) q167_232 (by decide) ?_
            refine a_goto (tgt := 237) q167_233 (by decide) ?_
            refine a_ireturn q167_237 (nr_int rfl _) ?_
            exact lfi hq (by unfold m_fb; rw [if_pos (Or.inl ⟨i_nle.mp zc203, zc209⟩), if_pos ⟨b2i_nz.mp zc217, Or.inl zc223⟩])
          · skip
            refine a_aload_n (i := 1) q167_226 rfl rfl ?_
            refine a_iconst (v := 3) q167_227 (by decide) ?_
            refine a_iald' (j := 3) q167_228 (hpo ho) rfl (by decide) (by decide) ?_
            refine a_if_lt (tgt := 236) q167_229 (by decide) (fun zc229 => ?_) (fun zc229 => ?_)
            · skip
              refine a_iconst (v := 1) q167_236 (by decide) ?_
              refine a_ireturn q167_237 (nr_int rfl _) ?_
              exact lfi hq (by unfold m_fb; rw [if_pos (Or.inl ⟨i_nle.mp zc203, zc209⟩), if_neg (fun zz => zz.2.elim zc223 (fun z3 => absurd z3 (i_nle.mpr zc229)))])
            · skip
              refine a_iconst (v := 2) q167_232 (by decide) ?_
              refine a_goto (tgt := 237) q167_233 (by decide) ?_
              refine a_ireturn q167_237 (nr_int rfl _) ?_
              exact lfi hq (by unfold m_fb; rw [if_pos (Or.inl ⟨i_nle.mp zc203, zc209⟩), if_pos ⟨b2i_nz.mp zc217, Or.inr (i_nlt.mp zc229)⟩])
      · skip
        refine a_iload_n (i := 2) q167_212 rfl rfl ?_
        refine a_if_eq (tgt := 238) q167_213 (by decide) (fun zc213 => ?_) (fun zc213 => ?_)
        · skip
          exact zk238 (fun zz => zz.elim (fun z2 => absurd z2.2 zc209) (b2i_z.mp zc213))
        · skip
          refine a_iload_n (i := 2) q167_216 rfl rfl ?_
          refine a_if_eq (tgt := 236) q167_217 (by decide) (fun zc217 => ?_) (fun zc217 => ?_)
          · skip
            refine a_iconst (v := 1) q167_236 (by decide) ?_
            refine a_ireturn q167_237 (nr_int rfl _) ?_
            exact lfi hq (by unfold m_fb; rw [if_pos (Or.inr (b2i_nz.mp zc213)), if_neg (fun zz => b2i_z.mp zc217 zz.1)])
          · skip
            refine a_aload_n (i := 1) q167_220 rfl rfl ?_
            refine a_iconst (v := 2) q167_221 (by decide) ?_
            refine a_iald' (j := 2) q167_222 (hpo ho) rfl (by decide) (by decide) ?_
            refine a_if_ge (tgt := 232) q167_223 (by decide) (fun zc223 => ?_) (fun zc223 => ?_)
            · skip
              refine a_iconst (v := 2) q167_232 (by decide) ?_
              refine a_goto (tgt := 237) q167_233 (by decide) ?_
              refine a_ireturn q167_237 (nr_int rfl _) ?_
              exact lfi hq (by unfold m_fb; rw [if_pos (Or.inr (b2i_nz.mp zc213)), if_pos ⟨b2i_nz.mp zc217, Or.inl zc223⟩])
            · skip
              refine a_aload_n (i := 1) q167_226 rfl rfl ?_
              refine a_iconst (v := 3) q167_227 (by decide) ?_
              refine a_iald' (j := 3) q167_228 (hpo ho) rfl (by decide) (by decide) ?_
              refine a_if_lt (tgt := 236) q167_229 (by decide) (fun zc229 => ?_) (fun zc229 => ?_)
              · skip
                refine a_iconst (v := 1) q167_236 (by decide) ?_
                refine a_ireturn q167_237 (nr_int rfl _) ?_
                exact lfi hq (by unfold m_fb; rw [if_pos (Or.inr (b2i_nz.mp zc213)), if_neg (fun zz => zz.2.elim zc223 (fun z3 => absurd z3 (i_nle.mpr zc229)))])
              · skip
                refine a_iconst (v := 2) q167_232 (by decide) ?_
                refine a_goto (tgt := 237) q167_233 (by decide) ?_
                refine a_ireturn q167_237 (nr_int rfl _) ?_
                exact lfi hq (by unfold m_fb; rw [if_pos (Or.inr (b2i_nz.mp zc213)), if_pos ⟨b2i_nz.mp zc217, Or.inr (i_nlt.mp zc229)⟩])
  · skip
    refine AW.cutP 263 (¬ (0 ≤ A o 5 ∧ ¬ (m_of A (A o) 3 = 4 ∧ A o 0 = 2))) (fun zk263 => ?_) (fun zf263 => ?_)
    · skip
      refine a_aload_n (i := 1) q167_238 rfl rfl ?_
      refine a_iconst (v := 5) q167_239 (by decide) ?_
      refine a_iald' (j := 5) q167_240 (hpo ho) rfl (by decide) (by decide) ?_
      refine a_if_lt (tgt := 263) q167_241 (by decide) (fun zc241 => ?_) (fun zc241 => ?_)
      · skip
        exact zk263 (fun zz => absurd zz.1 (i_nle.mpr zc241))
      · skip
        refine a_aload_n (i := 0) q167_244 rfl rfl ?_
        refine a_aload_n (i := 1) q167_245 rfl rfl ?_
        refine a_iconst (v := 3) q167_246 (by decide) ?_
        refine a_cv2 q167_247 rfl rfl ⟨rfl, rfl⟩ rfl ?_
        refine c_X10_of (k := 3) ho hv (by decide) ?_
        refine ck_r ?_
        refine a_iconst (v := 4) q167_250 (by decide) ?_
        refine a_icmp_ne (tgt := 261) q167_251 (by decide) (fun zc251 => ?_) (fun zc251 => ?_)
        · skip
          refine a_iconst (v := 3) q167_261 (by decide) ?_
          refine a_ireturn q167_262 (nr_int rfl _) ?_
          exact lfi hq (by unfold m_fb; rw [if_neg zf238, if_pos ⟨i_nlt.mp zc241, fun zz => zc251 zz.1⟩])
        · skip
          refine a_aload_n (i := 1) q167_254 rfl rfl ?_
          refine a_iconst (v := 0) q167_255 (by decide) ?_
          refine a_iald' (j := 0) q167_256 (hpo ho) rfl (by decide) (by decide) ?_
          refine a_iconst (v := 2) q167_257 (by decide) ?_
          refine a_icmp_eq (tgt := 263) q167_258 (by decide) (fun zc258 => ?_) (fun zc258 => ?_)
          · skip
            exact zk263 (fun zz => zz.2 ⟨zc251, zc258⟩)
          · skip
            refine a_iconst (v := 3) q167_261 (by decide) ?_
            refine a_ireturn q167_262 (nr_int rfl _) ?_
            exact lfi hq (by unfold m_fb; rw [if_neg zf238, if_pos ⟨i_nlt.mp zc241, fun zz => zc258 zz.2⟩])
    · skip
      refine AW.cutP 284 (¬ (m_b4 A (A o) ∨ m_b5 A (A o))) (fun zk284 => ?_) (fun zf284 => ?_)
      · skip
        refine a_iload q167_263 rfl ?_
        refine a_if_ne (tgt := 273) q167_265 (by decide) (fun zc265 => ?_) (fun zc265 => ?_)
        · skip
          refine a_iload q167_273 rfl ?_
          refine a_if_eq (tgt := 282) q167_275 (by decide) (fun zc275 => ?_) (fun zc275 => ?_)
          · skip
            refine a_iconst (v := 5) q167_282 (by decide) ?_
            refine a_ireturn q167_283 (nr_int rfl _) ?_
            exact lfi hq (by unfold m_fb; rw [if_neg zf238, if_neg zf263, if_pos (Or.inl (b2i_nz.mp zc265)), if_neg (b2i_z.mp zc275)])
          · skip
            refine a_iconst (v := 4) q167_278 (by decide) ?_
            refine a_goto (tgt := 283) q167_279 (by decide) ?_
            refine a_ireturn q167_283 (nr_int rfl _) ?_
            exact lfi hq (by unfold m_fb; rw [if_neg zf238, if_neg zf263, if_pos (Or.inl (b2i_nz.mp zc265)), if_pos (b2i_nz.mp zc275)])
        · skip
          refine a_iload q167_268 rfl ?_
          refine a_if_eq (tgt := 284) q167_270 (by decide) (fun zc270 => ?_) (fun zc270 => ?_)
          · skip
            exact zk284 (fun zz => zz.elim (b2i_z.mp zc265) (b2i_z.mp zc270))
          · skip
            refine a_iload q167_273 rfl ?_
            refine a_if_eq (tgt := 282) q167_275 (by decide) (fun zc275 => ?_) (fun zc275 => ?_)
            · skip
              refine a_iconst (v := 5) q167_282 (by decide) ?_
              refine a_ireturn q167_283 (nr_int rfl _) ?_
              exact lfi hq (by unfold m_fb; rw [if_neg zf238, if_neg zf263, if_pos (Or.inr (b2i_nz.mp zc270)), if_neg (b2i_z.mp zc275)])
            · skip
              refine a_iconst (v := 4) q167_278 (by decide) ?_
              refine a_goto (tgt := 283) q167_279 (by decide) ?_
              refine a_ireturn q167_283 (nr_int rfl _) ?_
              exact lfi hq (by unfold m_fb; rw [if_neg zf238, if_neg zf263, if_pos (Or.inr (b2i_nz.mp zc270)), if_pos (b2i_nz.mp zc275)])
      · skip
        refine AW.cutP 298 (¬ (A o 1 = 1 ∧ 0 ≤ A o 3)) (fun zk298 => ?_) (fun zf298 => ?_)
        · skip
          refine a_iload q167_284 rfl ?_
          refine a_if_eq (tgt := 298) q167_286 (by decide) (fun zc286 => ?_) (fun zc286 => ?_)
          · skip
            exact zk298 (fun zz => b2i_z.mp zc286 zz.1)
          · skip
            refine a_aload_n (i := 1) q167_289 rfl rfl ?_
            refine a_iconst (v := 3) q167_290 (by decide) ?_
            refine a_iald' (j := 3) q167_291 (hpo ho) rfl (by decide) (by decide) ?_
            refine a_if_lt (tgt := 298) q167_292 (by decide) (fun zc292 => ?_) (fun zc292 => ?_)
            · skip
              exact zk298 (fun zz => absurd zz.2 (i_nle.mpr zc292))
            · skip
              refine a_bipush (v := 6) q167_295 (by decide) ?_
              refine a_ireturn q167_297 (nr_int rfl _) ?_
              exact lfi hq (by unfold m_fb; rw [if_neg zf238, if_neg zf263, if_neg zf284, if_pos ⟨b2i_nz.mp zc286, i_nlt.mp zc292⟩])
        · skip
          refine AW.cutP 320 (¬ (A o 1 = 2 ∧ ¬ (m_of A (A o) 1 = 4 ∧ m_grp A (A o)))) (fun zk320 => ?_) (fun zf320 => ?_)
          · skip
            refine a_aload_n (i := 1) q167_298 rfl rfl ?_
            refine a_iconst (v := 1) q167_299 (by decide) ?_
            refine a_iald' (j := 1) q167_300 (hpo ho) rfl (by decide) (by decide) ?_
            refine a_iconst (v := 2) q167_301 (by decide) ?_
            refine a_icmp_ne (tgt := 320) q167_302 (by decide) (fun zc302 => ?_) (fun zc302 => ?_)
            · skip
              exact zk320 (fun zz => zc302 zz.1)
            · skip
              refine a_iload q167_305 rfl ?_
              refine a_if_eq (tgt := 315) q167_307 (by decide) (fun zc307 => ?_) (fun zc307 => ?_)
              · skip
                refine a_bipush (v := 7) q167_315 (by decide) ?_
                refine a_goto (tgt := 343) q167_317 (by decide) ?_
                refine a_ireturn q167_343 (nr_int rfl _) ?_
                exact lfi hq (by unfold m_fb; rw [if_neg zf238, if_neg zf263, if_neg zf284, if_neg zf298, if_pos ⟨zc302, fun zz => b2i_z.mp zc307 zz.1⟩])
              · skip
                refine a_iload q167_310 rfl ?_
                refine a_if_ne (tgt := 320) q167_312 (by decide) (fun zc312 => ?_) (fun zc312 => ?_)
                · skip
                  exact zk320 (fun zz => zz.2 ⟨b2i_nz.mp zc307, b2i_nz.mp zc312⟩)
                · skip
                  refine a_bipush (v := 7) q167_315 (by decide) ?_
                  refine a_goto (tgt := 343) q167_317 (by decide) ?_
                  refine a_ireturn q167_343 (nr_int rfl _) ?_
                  exact lfi hq (by unfold m_fb; rw [if_neg zf238, if_neg zf263, if_neg zf284, if_neg zf298, if_pos ⟨zc302, fun zz => b2i_z.mp zc312 zz.2⟩])
          · skip
            refine a_iload_n (i := 3) q167_320 rfl rfl ?_
            refine a_if_eq (tgt := 329) q167_321 (by decide) (fun zc321 => ?_) (fun zc321 => ?_)
            · skip
              refine a_aload_n (i := 0) q167_329 rfl rfl ?_
              refine a_aload_n (i := 1) q167_330 rfl rfl ?_
              refine a_cv1 q167_331 rfl rfl ⟨rfl, rfl⟩ rfl ?_
              refine c_X10_hasWishes ho hv ?_
              refine ck_r ?_
              refine a_if_eq (tgt := 341) q167_334 (by decide) (fun zc334 => ?_) (fun zc334 => ?_)
              · skip
                refine a_bipush (v := 9) q167_341 (by decide) ?_
                refine a_ireturn q167_343 (nr_int rfl _) ?_
                exact lfi hq (by unfold m_fb; rw [if_neg zf238, if_neg zf263, if_neg zf284, if_neg zf298, if_neg zf320, if_neg (b2i_z.mp zc321), if_neg (b2i_z.mp zc334)])
              · skip
                refine a_iconst (v := 0) q167_337 (by decide) ?_
                refine a_goto (tgt := 343) q167_338 (by decide) ?_
                refine a_ireturn q167_343 (nr_int rfl _) ?_
                exact lfi hq (by unfold m_fb; rw [if_neg zf238, if_neg zf263, if_neg zf284, if_neg zf298, if_neg zf320, if_neg (b2i_z.mp zc321), if_pos (b2i_nz.mp zc334)])
            · skip
              refine a_bipush (v := 8) q167_324 (by decide) ?_
              refine a_goto (tgt := 343) q167_326 (by decide) ?_
              refine a_ireturn q167_343 (nr_int rfl _) ?_
              exact lfi hq (by unfold m_fb; rw [if_neg zf238, if_neg zf263, if_neg zf284, if_neg zf298, if_neg zf320, if_pos (b2i_nz.mp zc321)])

abbrev m_nch (f : Nat → Int32) : Int32 := ((((0 : Int32) + b2i (0 ≤ f 2)) + b2i (0 ≤ f 3)) + b2i (0 ≤ f 4)) + b2i (0 ≤ f 5)
def m_soft (w : Int32) (A : Nat → Nat → Int32) (f : Nat → Int32) : Int32 :=
  ((((((b2i (f 0 = 0 ∧ f 1 = 0) ||| bv (m_of A f 0 = 3 ∧ m_of A f 1 = 3) 2) ||| bv (m_of A f 2 = 4) 4) ||| bv (f 0 = 2 ∧ f 1 = 0 ∧ 20 < w) 8) ||| bv (f 0 = 2 ∧ ¬ f 1 = 0) 16) ||| bv (3 ≤ m_nch f) 32) ||| bv (m_of A f 2 = 3 ∧ 4 < A 26 (f 4).toNatClampNeg) 64) ||| bv (f 2 < 0 ∨ f 3 < 0) 128
theorem c_X10_soft {X : XS} {I : Nat → Int32} {A : Nat → Nat → Int32} {L : Nat → Nat → Int64} {O : Nat → UInt64} {Q : AO → AH → Prop} {o : Nat} (ho : o = 29 ∨ o = 30 ∨ o = 31) (hv : vch (A o)) (hq : Q (.inl (some (.int (m_soft (I 20) A (A o))))) (hp I A L O)) : Call X 168 [.ref 21, .ref o] (hp I A L O) Q := by
  refine call_of (by decide) rfl rfl ?_
  refine a_iconst (v := 0) q168_0 (by decide) ?_
  refine a_istore_n (i := 2) (lv' := [(0, _), (1, _), (2, _)]) q168_1 rfl rfl rfl ?_
  refine a_iconst (v := 0) q168_2 (by decide) ?_
  refine a_istore_n (i := 3) (lv' := [(0, _), (1, _), (2, _), (3, _)]) q168_3 rfl rfl rfl ?_
  refine a_iload_n (i := 3) q168_4 rfl rfl ?_
  refine a_iconst (v := 4) q168_5 (by decide) ?_
  refine a_icmp_ge (tgt := 31) q168_6 (by decide) (fun zc6 => absurd zc6 (by decide)) (fun zc6 => ?_)
  refine a_iload_n (i := 2) q168_9 rfl rfl ?_
  refine AW.cut 23 (b2i (0 ≤ A o 2)) (fun zk23 => ?_) ?_
  · skip
    refine a_aload_n (i := 1) q168_10 rfl rfl ?_
    refine a_iconst (v := 2) q168_11 (by decide) ?_
    refine a_iload_n (i := 3) q168_12 rfl rfl ?_
    refine a_iadd q168_13 ?_
    refine a_iald' (j := 2) q168_14 (hpo ho) (nI_add 2 0) (by decide) (by decide) ?_
    refine a_if_lt (tgt := 22) q168_15 (by decide) (fun zc15 => ?_) (fun zc15 => ?_)
    · skip
      refine a_iconst (v := 0) q168_22 (by decide) ?_
      exact cutv zk23 (b2i_f (i_nle.mpr zc15))
    · skip
      refine a_iconst (v := 1) q168_18 (by decide) ?_
      refine a_goto (tgt := 23) q168_19 (by decide) ?_
      exact cutv zk23 (b2i_t (i_nlt.mp zc15))
  refine a_iadd q168_23 ?_
  refine a_istore_n (i := 2) (lv' := [(0, _), (1, _), (2, _), (3, _)]) q168_24 rfl rfl rfl ?_
  refine a_iinc (v := nI (0 + 1)) (lv' := [(0, _), (1, _), (2, _), (3, _)]) q168_25 rfl rfl (nI_1 (0)) rfl ?_
  refine a_goto (tgt := 4) q168_28 (by decide) ?_
  refine a_iload_n (i := 3) q168_4 rfl rfl ?_
  refine a_iconst (v := 4) q168_5 (by decide) ?_
  refine a_icmp_ge (tgt := 31) q168_6 (by decide) (fun zc6_1 => absurd zc6_1 (by decide)) (fun zc6_1 => ?_)
  refine a_iload_n (i := 2) q168_9 rfl rfl ?_
  refine AW.cut 23 (b2i (0 ≤ A o 3)) (fun zk23 => ?_) ?_
  · skip
    refine a_aload_n (i := 1) q168_10 rfl rfl ?_
    refine a_iconst (v := 2) q168_11 (by decide) ?_
    refine a_iload_n (i := 3) q168_12 rfl rfl ?_
    refine a_iadd q168_13 ?_
    refine a_iald' (j := 3) q168_14 (hpo ho) (nI_add 2 1) (by decide) (by decide) ?_
    refine a_if_lt (tgt := 22) q168_15 (by decide) (fun zc15 => ?_) (fun zc15 => ?_)
    · skip
      refine a_iconst (v := 0) q168_22 (by decide) ?_
      exact cutv zk23 (b2i_f (i_nle.mpr zc15))
    · skip
      refine a_iconst (v := 1) q168_18 (by decide) ?_
      refine a_goto (tgt := 23) q168_19 (by decide) ?_
      exact cutv zk23 (b2i_t (i_nlt.mp zc15))
  refine a_iadd q168_23 ?_
  refine a_istore_n (i := 2) (lv' := [(0, _), (1, _), (2, _), (3, _)]) q168_24 rfl rfl rfl ?_
  refine a_iinc (v := nI (1 + 1)) (lv' := [(0, _), (1, _), (2, _), (3, _)]) q168_25 rfl rfl (nI_1 (1)) rfl ?_
  refine a_goto (tgt := 4) q168_28 (by decide) ?_
  refine a_iload_n (i := 3) q168_4 rfl rfl ?_
  refine a_iconst (v := 4) q168_5 (by decide) ?_
  refine a_icmp_ge (tgt := 31) q168_6 (by decide) (fun zc6_2 => absurd zc6_2 (by decide)) (fun zc6_2 => ?_)
  refine a_iload_n (i := 2) q168_9 rfl rfl ?_
  refine AW.cut 23 (b2i (0 ≤ A o 4)) (fun zk23 => ?_) ?_
  · skip
    refine a_aload_n (i := 1) q168_10 rfl rfl ?_
    refine a_iconst (v := 2) q168_11 (by decide) ?_
    refine a_iload_n (i := 3) q168_12 rfl rfl ?_
    refine a_iadd q168_13 ?_
    refine a_iald' (j := 4) q168_14 (hpo ho) (nI_add 2 2) (by decide) (by decide) ?_
    refine a_if_lt (tgt := 22) q168_15 (by decide) (fun zc15 => ?_) (fun zc15 => ?_)
    · skip
      refine a_iconst (v := 0) q168_22 (by decide) ?_
      exact cutv zk23 (b2i_f (i_nle.mpr zc15))
    · skip
      refine a_iconst (v := 1) q168_18 (by decide) ?_
      refine a_goto (tgt := 23) q168_19 (by decide) ?_
      exact cutv zk23 (b2i_t (i_nlt.mp zc15))
  refine a_iadd q168_23 ?_
  refine a_istore_n (i := 2) (lv' := [(0, _), (1, _), (2, _), (3, _)]) q168_24 rfl rfl rfl ?_
  refine a_iinc (v := nI (2 + 1)) (lv' := [(0, _), (1, _), (2, _), (3, _)]) q168_25 rfl rfl (nI_1 (2)) rfl ?_
  refine a_goto (tgt := 4) q168_28 (by decide) ?_
  refine a_iload_n (i := 3) q168_4 rfl rfl ?_
  refine a_iconst (v := 4) q168_5 (by decide) ?_
  refine a_icmp_ge (tgt := 31) q168_6 (by decide) (fun zc6_3 => absurd zc6_3 (by decide)) (fun zc6_3 => ?_)
  refine a_iload_n (i := 2) q168_9 rfl rfl ?_
  refine AW.cut 23 (b2i (0 ≤ A o 5)) (fun zk23 => ?_) ?_
  · skip
    refine a_aload_n (i := 1) q168_10 rfl rfl ?_
    refine a_iconst (v := 2) q168_11 (by decide) ?_
    refine a_iload_n (i := 3) q168_12 rfl rfl ?_
    refine a_iadd q168_13 ?_
    refine a_iald' (j := 5) q168_14 (hpo ho) (nI_add 2 3) (by decide) (by decide) ?_
    refine a_if_lt (tgt := 22) q168_15 (by decide) (fun zc15 => ?_) (fun zc15 => ?_)
    · skip
      refine a_iconst (v := 0) q168_22 (by decide) ?_
      exact cutv zk23 (b2i_f (i_nle.mpr zc15))
    · skip
      refine a_iconst (v := 1) q168_18 (by decide) ?_
      refine a_goto (tgt := 23) q168_19 (by decide) ?_
      exact cutv zk23 (b2i_t (i_nlt.mp zc15))
  refine a_iadd q168_23 ?_
  refine a_istore_n (i := 2) (lv' := [(0, _), (1, _), (2, _), (3, _)]) q168_24 rfl rfl rfl ?_
  refine a_iinc (v := nI (3 + 1)) (lv' := [(0, _), (1, _), (2, _), (3, _)]) q168_25 rfl rfl (nI_1 (3)) rfl ?_
  refine a_goto (tgt := 4) q168_28 (by decide) ?_
  refine a_iload_n (i := 3) q168_4 rfl rfl ?_
  refine a_iconst (v := 4) q168_5 (by decide) ?_
  refine a_icmp_ge (tgt := 31) q168_6 (by decide) (fun zc6_4 => ?_) (fun zc6_4 => absurd (by decide) zc6_4)
  refine AW.cut 48 (b2i (A o 0 = 0 ∧ A o 1 = 0)) (fun zk48 => ?_) ?_
  · skip
    refine a_aload_n (i := 1) q168_31 rfl rfl ?_
    refine a_iconst (v := 0) q168_32 (by decide) ?_
    refine a_iald' (j := 0) q168_33 (hpo ho) rfl (by decide) (by decide) ?_
    refine a_if_ne (tgt := 47) q168_34 (by decide) (fun zc34 => ?_) (fun zc34 => ?_)
    · skip
      refine a_iconst (v := 0) q168_47 (by decide) ?_
      exact cutv zk48 (b2i_f (fun zz => zc34 zz.1))
    · skip
      refine a_aload_n (i := 1) q168_37 rfl rfl ?_
      refine a_iconst (v := 1) q168_38 (by decide) ?_
      refine a_iald' (j := 1) q168_39 (hpo ho) rfl (by decide) (by decide) ?_
      refine a_if_ne (tgt := 47) q168_40 (by decide) (fun zc40 => ?_) (fun zc40 => ?_)
      · skip
        refine a_iconst (v := 0) q168_47 (by decide) ?_
        exact cutv zk48 (b2i_f (fun zz => zc40 zz.2))
      · skip
        refine a_iconst (v := 1) q168_43 (by decide) ?_
        refine a_goto (tgt := 48) q168_44 (by decide) ?_
        exact cutv zk48 (b2i_t ⟨zc34, zc40⟩)
  refine a_istore_n (i := 3) (lv' := [(0, _), (1, _), (2, _), (3, _)]) q168_48 rfl rfl rfl ?_
  refine a_iload_n (i := 3) q168_49 rfl rfl ?_
  refine AW.cut 75 (bv (m_of A (A o) 0 = 3 ∧ m_of A (A o) 1 = 3) 2) (fun zk75 => ?_) ?_
  · skip
    refine a_aload_n (i := 0) q168_50 rfl rfl ?_
    refine a_aload_n (i := 1) q168_51 rfl rfl ?_
    refine a_iconst (v := 0) q168_52 (by decide) ?_
    refine a_cv2 q168_53 rfl rfl ⟨rfl, rfl⟩ rfl ?_
    refine c_X10_of (k := 0) ho hv (by decide) ?_
    refine ck_r ?_
    refine a_iconst (v := 3) q168_56 (by decide) ?_
    refine a_icmp_ne (tgt := 74) q168_57 (by decide) (fun zc57 => ?_) (fun zc57 => ?_)
    · skip
      refine a_iconst (v := 0) q168_74 (by decide) ?_
      exact cutv zk75 (if_neg (fun zz => zc57 zz.1))
    · skip
      refine a_aload_n (i := 0) q168_60 rfl rfl ?_
      refine a_aload_n (i := 1) q168_61 rfl rfl ?_
      refine a_iconst (v := 1) q168_62 (by decide) ?_
      refine a_cv2 q168_63 rfl rfl ⟨rfl, rfl⟩ rfl ?_
      refine c_X10_of (k := 1) ho hv (by decide) ?_
      refine ck_r ?_
      refine a_iconst (v := 3) q168_66 (by decide) ?_
      refine a_icmp_ne (tgt := 74) q168_67 (by decide) (fun zc67 => ?_) (fun zc67 => ?_)
      · skip
        refine a_iconst (v := 0) q168_74 (by decide) ?_
        exact cutv zk75 (if_neg (fun zz => zc67 zz.2))
      · skip
        refine a_iconst (v := 2) q168_70 (by decide) ?_
        refine a_goto (tgt := 75) q168_71 (by decide) ?_
        exact cutv zk75 (if_pos (And.intro zc57 zc67))
  refine a_ior q168_75 ?_
  refine a_istore_n (i := 3) (lv' := [(0, _), (1, _), (2, _), (3, _)]) q168_76 rfl rfl rfl ?_
  refine a_iload_n (i := 3) q168_77 rfl rfl ?_
  refine AW.cut 93 (bv (m_of A (A o) 2 = 4) 4) (fun zk93 => ?_) ?_
  · skip
    refine a_aload_n (i := 0) q168_78 rfl rfl ?_
    refine a_aload_n (i := 1) q168_79 rfl rfl ?_
    refine a_iconst (v := 2) q168_80 (by decide) ?_
    refine a_cv2 q168_81 rfl rfl ⟨rfl, rfl⟩ rfl ?_
    refine c_X10_of (k := 2) ho hv (by decide) ?_
    refine ck_r ?_
    refine a_iconst (v := 4) q168_84 (by decide) ?_
    refine a_icmp_ne (tgt := 92) q168_85 (by decide) (fun zc85 => ?_) (fun zc85 => ?_)
    · skip
      refine a_iconst (v := 0) q168_92 (by decide) ?_
      exact cutv zk93 (if_neg (zc85))
    · skip
      refine a_iconst (v := 4) q168_88 (by decide) ?_
      refine a_goto (tgt := 93) q168_89 (by decide) ?_
      exact cutv zk93 (if_pos (zc85))
  refine a_ior q168_93 ?_
  refine a_istore_n (i := 3) (lv' := [(0, _), (1, _), (2, _), (3, _)]) q168_94 rfl rfl rfl ?_
  refine a_iload_n (i := 3) q168_95 rfl rfl ?_
  refine AW.cut 124 (bv (A o 0 = 2 ∧ A o 1 = 0 ∧ 20 < I 20) 8) (fun zk124 => ?_) ?_
  · skip
    refine a_aload_n (i := 1) q168_96 rfl rfl ?_
    refine a_iconst (v := 0) q168_97 (by decide) ?_
    refine a_iald' (j := 0) q168_98 (hpo ho) rfl (by decide) (by decide) ?_
    refine a_iconst (v := 2) q168_99 (by decide) ?_
    refine a_icmp_ne (tgt := 123) q168_100 (by decide) (fun zc100 => ?_) (fun zc100 => ?_)
    · skip
      refine a_iconst (v := 0) q168_123 (by decide) ?_
      exact cutv zk124 (if_neg (fun zz => zc100 zz.1))
    · skip
      refine a_aload_n (i := 1) q168_103 rfl rfl ?_
      refine a_iconst (v := 1) q168_104 (by decide) ?_
      refine a_iald' (j := 1) q168_105 (hpo ho) rfl (by decide) (by decide) ?_
      refine a_if_ne (tgt := 123) q168_106 (by decide) (fun zc106 => ?_) (fun zc106 => ?_)
      · skip
        refine a_iconst (v := 0) q168_123 (by decide) ?_
        exact cutv zk124 (if_neg (fun zz => zc106 zz.2.1))
      · skip
        refine a_aload_n (i := 0) q168_109 rfl rfl ?_
        refine a_getfield q168_110 rfl rfl ?_
        refine a_bipush (v := 20) q168_113 (by decide) ?_
        refine a_icmp_le (tgt := 123) q168_115 (by decide) (fun zc115 => ?_) (fun zc115 => ?_)
        · skip
          refine a_iconst (v := 0) q168_123 (by decide) ?_
          exact cutv zk124 (if_neg (fun zz => absurd zz.2.2 (i_nlt.mpr zc115)))
        · skip
          refine a_bipush (v := 8) q168_118 (by decide) ?_
          refine a_goto (tgt := 124) q168_120 (by decide) ?_
          exact cutv zk124 (if_pos (And.intro zc100 (And.intro zc106 (i_nle.mp zc115))))
  refine a_ior q168_124 ?_
  refine a_istore_n (i := 3) (lv' := [(0, _), (1, _), (2, _), (3, _)]) q168_125 rfl rfl rfl ?_
  refine a_iload_n (i := 3) q168_126 rfl rfl ?_
  refine AW.cut 146 (bv (A o 0 = 2 ∧ ¬ A o 1 = 0) 16) (fun zk146 => ?_) ?_
  · skip
    refine a_aload_n (i := 1) q168_127 rfl rfl ?_
    refine a_iconst (v := 0) q168_128 (by decide) ?_
    refine a_iald' (j := 0) q168_129 (hpo ho) rfl (by decide) (by decide) ?_
    refine a_iconst (v := 2) q168_130 (by decide) ?_
    refine a_icmp_ne (tgt := 145) q168_131 (by decide) (fun zc131 => ?_) (fun zc131 => ?_)
    · skip
      refine a_iconst (v := 0) q168_145 (by decide) ?_
      exact cutv zk146 (if_neg (fun zz => zc131 zz.1))
    · skip
      refine a_aload_n (i := 1) q168_134 rfl rfl ?_
      refine a_iconst (v := 1) q168_135 (by decide) ?_
      refine a_iald' (j := 1) q168_136 (hpo ho) rfl (by decide) (by decide) ?_
      refine a_if_eq (tgt := 145) q168_137 (by decide) (fun zc137 => ?_) (fun zc137 => ?_)
      · skip
        refine a_iconst (v := 0) q168_145 (by decide) ?_
        exact cutv zk146 (if_neg (fun zz => zz.2 zc137))
      · skip
        refine a_bipush (v := 16) q168_140 (by decide) ?_
        refine a_goto (tgt := 146) q168_142 (by decide) ?_
        exact cutv zk146 (if_pos (And.intro zc131 zc137))
  refine a_ior q168_146 ?_
  refine a_istore_n (i := 3) (lv' := [(0, _), (1, _), (2, _), (3, _)]) q168_147 rfl rfl rfl ?_
  refine a_iload_n (i := 3) q168_148 rfl rfl ?_
  refine AW.cut 160 (bv (3 ≤ m_nch (A o)) 32) (fun zk160 => ?_) ?_
  · skip
    refine a_iload_n (i := 2) q168_149 rfl rfl ?_
    refine a_iconst (v := 3) q168_150 (by decide) ?_
    refine a_icmp_lt (tgt := 159) q168_151 (by decide) (fun zc151 => ?_) (fun zc151 => ?_)
    · skip
      refine a_iconst (v := 0) q168_159 (by decide) ?_
      exact cutv zk160 (if_neg (i_nle.mpr zc151))
    · skip
      refine a_bipush (v := 32) q168_154 (by decide) ?_
      refine a_goto (tgt := 160) q168_156 (by decide) ?_
      exact cutv zk160 (if_pos (i_nlt.mp zc151))
  refine a_ior q168_160 ?_
  refine a_istore_n (i := 3) (lv' := [(0, _), (1, _), (2, _), (3, _)]) q168_161 rfl rfl rfl ?_
  refine a_iload_n (i := 3) q168_162 rfl rfl ?_
  refine AW.cut 191 (bv (m_of A (A o) 2 = 3 ∧ 4 < A 26 (A o 4).toNatClampNeg) 64) (fun zk191 => ?_) ?_
  · skip
    refine a_aload_n (i := 0) q168_163 rfl rfl ?_
    refine a_aload_n (i := 1) q168_164 rfl rfl ?_
    refine a_iconst (v := 2) q168_165 (by decide) ?_
    refine a_cv2 q168_166 rfl rfl ⟨rfl, rfl⟩ rfl ?_
    refine c_X10_of (k := 2) ho hv (by decide) ?_
    refine ck_r ?_
    refine a_iconst (v := 3) q168_169 (by decide) ?_
    refine a_icmp_ne (tgt := 190) q168_170 (by decide) (fun zc170 => ?_) (fun zc170 => ?_)
    · skip
      refine a_iconst (v := 0) q168_190 (by decide) ?_
      exact cutv zk191 (if_neg (fun zz => zc170 zz.1))
    · skip
      refine a_aload_n (i := 0) q168_173 rfl rfl ?_
      refine a_getfield q168_174 rfl rfl ?_
      refine a_aload_n (i := 1) q168_177 rfl rfl ?_
      refine a_iconst (v := 4) q168_178 (by decide) ?_
      refine a_iald' (j := 4) q168_179 (hpo ho) rfl (by decide) (by decide) ?_
      refine a_iald q168_180 rfl (vpi (N := 6) (of_nn (k := 2) zc170) (i_nle.mpr (hv 2 (by decide)).2) rfl) ?_
      refine a_iconst (v := 4) q168_181 (by decide) ?_
      refine a_icmp_le (tgt := 190) q168_182 (by decide) (fun zc182 => ?_) (fun zc182 => ?_)
      · skip
        refine a_iconst (v := 0) q168_190 (by decide) ?_
        exact cutv zk191 (if_neg (fun zz => absurd zz.2 (i_nlt.mpr zc182)))
      · skip
        refine a_bipush (v := 64) q168_185 (by decide) ?_
        refine a_goto (tgt := 191) q168_187 (by decide) ?_
        exact cutv zk191 (if_pos (And.intro zc170 (i_nle.mp zc182)))
  refine a_ior q168_191 ?_
  refine a_istore_n (i := 3) (lv' := [(0, _), (1, _), (2, _), (3, _)]) q168_192 rfl rfl rfl ?_
  refine a_iload_n (i := 3) q168_193 rfl rfl ?_
  refine AW.cut 213 (bv (A o 2 < 0 ∨ A o 3 < 0) 128) (fun zk213 => ?_) ?_
  · skip
    refine a_aload_n (i := 1) q168_194 rfl rfl ?_
    refine a_iconst (v := 2) q168_195 (by decide) ?_
    refine a_iald' (j := 2) q168_196 (hpo ho) rfl (by decide) (by decide) ?_
    refine a_if_lt (tgt := 206) q168_197 (by decide) (fun zc197 => ?_) (fun zc197 => ?_)
    · skip
      refine a_sipush (v := 128) q168_206 (by decide) ?_
      refine a_goto (tgt := 213) q168_209 (by decide) ?_
      exact cutv zk213 (if_pos (Or.inl zc197))
    · skip
      refine a_aload_n (i := 1) q168_200 rfl rfl ?_
      refine a_iconst (v := 3) q168_201 (by decide) ?_
      refine a_iald' (j := 3) q168_202 (hpo ho) rfl (by decide) (by decide) ?_
      refine a_if_ge (tgt := 212) q168_203 (by decide) (fun zc203 => ?_) (fun zc203 => ?_)
      · skip
        refine a_iconst (v := 0) q168_212 (by decide) ?_
        exact cutv zk213 (if_neg (fun zz => zz.elim zc197 (i_nlt.mpr zc203)))
      · skip
        refine a_sipush (v := 128) q168_206 (by decide) ?_
        refine a_goto (tgt := 213) q168_209 (by decide) ?_
        exact cutv zk213 (if_pos (Or.inr (i_nle.mp zc203)))
  refine a_ior q168_213 ?_
  refine a_ireturn q168_214 (nr_int rfl _) ?_
  exact hq

abbrev m_gk (A : Nat → Nat → Int32) (f : Nat → Int32) (r k : Nat) : Prop := 0 ≤ f (2 + k) ∧ A 22 (6 * r + (f (2 + k)).toNatClampNeg) = -10000
abbrev m_gp (A : Nat → Nat → Int32) (f : Nat → Int32) (r : Nat) : Prop := ((m_gk A f r 0 ∨ m_gk A f r 1) ∨ m_gk A f r 2) ∨ m_gk A f r 3
def m_gap (A : Nat → Nat → Int32) (f : Nat → Int32) : Nat → Int32
  | 0 => 0
  | r + 1 => if m_gp A f r then m_gap A f r + 1 else m_gap A f r + 0
theorem c_X10_atx {X : XS} {I : Nat → Int32} {A : Nat → Nat → Int32} {L : Nat → Nat → Int64} {O : Nat → UInt64} {Q : AO → AH → Prop} {j : Nat} {x : Int32} (hj : j < 40) (h0 : 0 ≤ x) (h6 : x < 6) (hq : Q (.inl (some (.int (A 22 (6 * j + x.toNatClampNeg))))) (hp I A L O)) : Call X 144 [.ref 21, .int (nI j), .int x] (hp I A L O) Q := by
  obtain ⟨k, hk, rfl⟩ := isCol_of ⟨h0, h6⟩
  exact c_X10_at hj hk (lfi hq (by rw [nI_cl (n := 6) hk (by decide)]; rfl))
theorem l_mgaps (m : Nat) : ∀ {X : XS} {I : Nat → Int32} {A : Nat → Nat → Int32} {L : Nat → Nat → Int64} {O : Nat → UInt64} {Q : AO → AH → Prop} {o r n : Nat} (hn : I 20 = nI n) (hn40 : n ≤ 40) (ho : o = 29 ∨ o = 30 ∨ o = 31) (hv : vch (A o)) (hm : r + m = n) (hq : Q (.inl (some (.int (m_gap A (A o) n)))) (hp I A L O)), AW X 169 4 [(0, .ref 21), (1, .ref o), (2, .int (m_gap A (A o) r)), (3, .int (nI r))] [] (hp I A L O) 0 0 Q := by
  induction m with
  | zero =>
    intro X I A L O Q o r n hn hn40 ho hv hm hq
    refine a_iload_n (i := 3) q169_4 rfl rfl ?_
    refine a_aload_n (i := 0) q169_5 rfl rfl ?_
    refine a_getfield q169_6 rfl rfl ?_
    refine AW.ti hn ?_
    refine a_icmp_ge (tgt := 82) q169_9 (by decide) (fun zc9 => ?_) (fun zc9 => absurd (nI_le (show n ≤ r by omega) (by omega)) zc9)
    refine a_iload_n (i := 2) q169_82 rfl rfl ?_
    refine a_ireturn q169_83 (nr_int rfl _) ?_
    have zr : n = r := by omega
    subst zr
    exact hq
  | succ m ih =>
    intro X I A L O Q o r n hn hn40 ho hv hm hq
    refine a_iload_n (i := 3) q169_4 rfl rfl ?_
    refine a_aload_n (i := 0) q169_5 rfl rfl ?_
    refine a_getfield q169_6 rfl rfl ?_
    refine AW.ti hn ?_
    refine a_icmp_ge (tgt := 82) q169_9 (by decide) (fun zc9 => absurd zc9 (nI_ge (show r < n by omega) (by omega))) (fun zc9 => ?_)
    refine a_iconst (v := 0) q169_12 (by decide) ?_
    refine a_istore (i := 4) (lv' := [(0, _), (1, _), (2, _), (3, _), (4, _)]) q169_13 rfl rfl ?_
    refine a_iconst (v := 2) q169_15 (by decide) ?_
    refine a_istore (i := 5) (lv' := [(0, _), (1, _), (2, _), (3, _), (4, _), (5, _)]) q169_16 rfl rfl ?_
    refine a_iload q169_18 rfl ?_
    refine a_bipush (v := 6) q169_20 (by decide) ?_
    refine a_icmp_ge (tgt := 63) q169_22 (by decide) (fun zc22 => absurd zc22 (by decide)) (fun zc22 => ?_)
    refine a_iload q169_25 rfl ?_
    refine AW.cut 54 (b2i (m_gk A (A o) r 0)) (fun zk54 => ?_) ?_
    · skip
      refine a_aload_n (i := 1) q169_27 rfl rfl ?_
      refine a_iload q169_28 rfl ?_
      refine a_iald' (j := 2 + 0) q169_30 (hpo ho) rfl (by decide) (by decide) ?_
      refine a_if_lt (tgt := 53) q169_31 (by decide) (fun zc31 => ?_) (fun zc31 => ?_)
      · skip
        refine a_iconst (v := 0) q169_53 (by decide) ?_
        exact cutv zk54 (b2i_f (fun zz => absurd zz.1 (i_nle.mpr zc31)))
      · skip
        refine a_aload_n (i := 0) q169_34 rfl rfl ?_
        refine a_iload_n (i := 3) q169_35 rfl rfl ?_
        refine a_aload_n (i := 1) q169_36 rfl rfl ?_
        refine a_iload q169_37 rfl ?_
        refine a_iald' (j := 2 + 0) q169_39 (hpo ho) rfl (by decide) (by decide) ?_
        refine a_cv2 q169_40 rfl rfl ⟨rfl, rfl⟩ rfl ?_
        refine c_X10_atx (by omega) (i_nlt.mp zc31) (hv 0 (by decide)).2 ?_
        refine ck_r ?_
        refine a_sipush (v := (-10000)) q169_43 (by decide) ?_
        refine a_icmp_ne (tgt := 53) q169_46 (by decide) (fun zc46 => ?_) (fun zc46 => ?_)
        · skip
          refine a_iconst (v := 0) q169_53 (by decide) ?_
          exact cutv zk54 (b2i_f (fun zz => zc46 zz.2))
        · skip
          refine a_iconst (v := 1) q169_49 (by decide) ?_
          refine a_goto (tgt := 54) q169_50 (by decide) ?_
          exact cutv zk54 (b2i_t ⟨i_nlt.mp zc31, zc46⟩)
    refine a_ior q169_54 ?_
    refine AW.ti (b2i_orI (p := False) (q := m_gk A (A o) r 0) (r := m_gk A (A o) r 0) false_orI) ?_
    refine a_istore (i := 4) (lv' := [(0, _), (1, _), (2, _), (3, _), (4, _), (5, _)]) q169_55 rfl rfl ?_
    refine a_iinc (v := nI (2 + 1)) (lv' := [(0, _), (1, _), (2, _), (3, _), (4, _), (5, _)]) q169_57 rfl rfl (nI_1 (2)) rfl ?_
    refine a_goto (tgt := 18) q169_60 (by decide) ?_
    refine a_iload q169_18 rfl ?_
    refine a_bipush (v := 6) q169_20 (by decide) ?_
    refine a_icmp_ge (tgt := 63) q169_22 (by decide) (fun zc22_1 => absurd zc22_1 (by decide)) (fun zc22_1 => ?_)
    refine a_iload q169_25 rfl ?_
    refine AW.cut 54 (b2i (m_gk A (A o) r 1)) (fun zk54 => ?_) ?_
    · skip
      refine a_aload_n (i := 1) q169_27 rfl rfl ?_
      refine a_iload q169_28 rfl ?_
      refine a_iald' (j := 2 + 1) q169_30 (hpo ho) rfl (by decide) (by decide) ?_
      refine a_if_lt (tgt := 53) q169_31 (by decide) (fun zc31 => ?_) (fun zc31 => ?_)
      · skip
        refine a_iconst (v := 0) q169_53 (by decide) ?_
        exact cutv zk54 (b2i_f (fun zz => absurd zz.1 (i_nle.mpr zc31)))
      · skip
        refine a_aload_n (i := 0) q169_34 rfl rfl ?_
        refine a_iload_n (i := 3) q169_35 rfl rfl ?_
        refine a_aload_n (i := 1) q169_36 rfl rfl ?_
        refine a_iload q169_37 rfl ?_
        refine a_iald' (j := 2 + 1) q169_39 (hpo ho) rfl (by decide) (by decide) ?_
        refine a_cv2 q169_40 rfl rfl ⟨rfl, rfl⟩ rfl ?_
        refine c_X10_atx (by omega) (i_nlt.mp zc31) (hv 1 (by decide)).2 ?_
        refine ck_r ?_
        refine a_sipush (v := (-10000)) q169_43 (by decide) ?_
        refine a_icmp_ne (tgt := 53) q169_46 (by decide) (fun zc46 => ?_) (fun zc46 => ?_)
        · skip
          refine a_iconst (v := 0) q169_53 (by decide) ?_
          exact cutv zk54 (b2i_f (fun zz => zc46 zz.2))
        · skip
          refine a_iconst (v := 1) q169_49 (by decide) ?_
          refine a_goto (tgt := 54) q169_50 (by decide) ?_
          exact cutv zk54 (b2i_t ⟨i_nlt.mp zc31, zc46⟩)
    refine a_ior q169_54 ?_
    refine AW.ti (b2i_orI (p := m_gk A (A o) r 0) (q := m_gk A (A o) r 1) (r := m_gk A (A o) r 0 ∨ m_gk A (A o) r 1) Iff.rfl) ?_
    refine a_istore (i := 4) (lv' := [(0, _), (1, _), (2, _), (3, _), (4, _), (5, _)]) q169_55 rfl rfl ?_
    refine a_iinc (v := nI (3 + 1)) (lv' := [(0, _), (1, _), (2, _), (3, _), (4, _), (5, _)]) q169_57 rfl rfl (nI_1 (3)) rfl ?_
    refine a_goto (tgt := 18) q169_60 (by decide) ?_
    refine a_iload q169_18 rfl ?_
    refine a_bipush (v := 6) q169_20 (by decide) ?_
    refine a_icmp_ge (tgt := 63) q169_22 (by decide) (fun zc22_2 => absurd zc22_2 (by decide)) (fun zc22_2 => ?_)
    refine a_iload q169_25 rfl ?_
    refine AW.cut 54 (b2i (m_gk A (A o) r 2)) (fun zk54 => ?_) ?_
    · skip
      refine a_aload_n (i := 1) q169_27 rfl rfl ?_
      refine a_iload q169_28 rfl ?_
      refine a_iald' (j := 2 + 2) q169_30 (hpo ho) rfl (by decide) (by decide) ?_
      refine a_if_lt (tgt := 53) q169_31 (by decide) (fun zc31 => ?_) (fun zc31 => ?_)
      · skip
        refine a_iconst (v := 0) q169_53 (by decide) ?_
        exact cutv zk54 (b2i_f (fun zz => absurd zz.1 (i_nle.mpr zc31)))
      · skip
        refine a_aload_n (i := 0) q169_34 rfl rfl ?_
        refine a_iload_n (i := 3) q169_35 rfl rfl ?_
        refine a_aload_n (i := 1) q169_36 rfl rfl ?_
        refine a_iload q169_37 rfl ?_
        refine a_iald' (j := 2 + 2) q169_39 (hpo ho) rfl (by decide) (by decide) ?_
        refine a_cv2 q169_40 rfl rfl ⟨rfl, rfl⟩ rfl ?_
        refine c_X10_atx (by omega) (i_nlt.mp zc31) (hv 2 (by decide)).2 ?_
        refine ck_r ?_
        refine a_sipush (v := (-10000)) q169_43 (by decide) ?_
        refine a_icmp_ne (tgt := 53) q169_46 (by decide) (fun zc46 => ?_) (fun zc46 => ?_)
        · skip
          refine a_iconst (v := 0) q169_53 (by decide) ?_
          exact cutv zk54 (b2i_f (fun zz => zc46 zz.2))
        · skip
          refine a_iconst (v := 1) q169_49 (by decide) ?_
          refine a_goto (tgt := 54) q169_50 (by decide) ?_
          exact cutv zk54 (b2i_t ⟨i_nlt.mp zc31, zc46⟩)
    refine a_ior q169_54 ?_
    refine AW.ti (b2i_orI (p := m_gk A (A o) r 0 ∨ m_gk A (A o) r 1) (q := m_gk A (A o) r 2) (r := (m_gk A (A o) r 0 ∨ m_gk A (A o) r 1) ∨ m_gk A (A o) r 2) Iff.rfl) ?_
    refine a_istore (i := 4) (lv' := [(0, _), (1, _), (2, _), (3, _), (4, _), (5, _)]) q169_55 rfl rfl ?_
    refine a_iinc (v := nI (4 + 1)) (lv' := [(0, _), (1, _), (2, _), (3, _), (4, _), (5, _)]) q169_57 rfl rfl (nI_1 (4)) rfl ?_
    refine a_goto (tgt := 18) q169_60 (by decide) ?_
    refine a_iload q169_18 rfl ?_
    refine a_bipush (v := 6) q169_20 (by decide) ?_
    refine a_icmp_ge (tgt := 63) q169_22 (by decide) (fun zc22_3 => absurd zc22_3 (by decide)) (fun zc22_3 => ?_)
    refine a_iload q169_25 rfl ?_
    refine AW.cut 54 (b2i (m_gk A (A o) r 3)) (fun zk54 => ?_) ?_
    · skip
      refine a_aload_n (i := 1) q169_27 rfl rfl ?_
      refine a_iload q169_28 rfl ?_
      refine a_iald' (j := 2 + 3) q169_30 (hpo ho) rfl (by decide) (by decide) ?_
      refine a_if_lt (tgt := 53) q169_31 (by decide) (fun zc31 => ?_) (fun zc31 => ?_)
      · skip
        refine a_iconst (v := 0) q169_53 (by decide) ?_
        exact cutv zk54 (b2i_f (fun zz => absurd zz.1 (i_nle.mpr zc31)))
      · skip
        refine a_aload_n (i := 0) q169_34 rfl rfl ?_
        refine a_iload_n (i := 3) q169_35 rfl rfl ?_
        refine a_aload_n (i := 1) q169_36 rfl rfl ?_
        refine a_iload q169_37 rfl ?_
        refine a_iald' (j := 2 + 3) q169_39 (hpo ho) rfl (by decide) (by decide) ?_
        refine a_cv2 q169_40 rfl rfl ⟨rfl, rfl⟩ rfl ?_
        refine c_X10_atx (by omega) (i_nlt.mp zc31) (hv 3 (by decide)).2 ?_
        refine ck_r ?_
        refine a_sipush (v := (-10000)) q169_43 (by decide) ?_
        refine a_icmp_ne (tgt := 53) q169_46 (by decide) (fun zc46 => ?_) (fun zc46 => ?_)
        · skip
          refine a_iconst (v := 0) q169_53 (by decide) ?_
          exact cutv zk54 (b2i_f (fun zz => zc46 zz.2))
        · skip
          refine a_iconst (v := 1) q169_49 (by decide) ?_
          refine a_goto (tgt := 54) q169_50 (by decide) ?_
          exact cutv zk54 (b2i_t ⟨i_nlt.mp zc31, zc46⟩)
    refine a_ior q169_54 ?_
    refine AW.ti (b2i_orI (p := (m_gk A (A o) r 0 ∨ m_gk A (A o) r 1) ∨ m_gk A (A o) r 2) (q := m_gk A (A o) r 3) (r := ((m_gk A (A o) r 0 ∨ m_gk A (A o) r 1) ∨ m_gk A (A o) r 2) ∨ m_gk A (A o) r 3) Iff.rfl) ?_
    refine a_istore (i := 4) (lv' := [(0, _), (1, _), (2, _), (3, _), (4, _), (5, _)]) q169_55 rfl rfl ?_
    refine a_iinc (v := nI (5 + 1)) (lv' := [(0, _), (1, _), (2, _), (3, _), (4, _), (5, _)]) q169_57 rfl rfl (nI_1 (5)) rfl ?_
    refine a_goto (tgt := 18) q169_60 (by decide) ?_
    refine a_iload q169_18 rfl ?_
    refine a_bipush (v := 6) q169_20 (by decide) ?_
    refine a_icmp_ge (tgt := 63) q169_22 (by decide) (fun zc22_4 => ?_) (fun zc22_4 => absurd (by decide) zc22_4)
    refine a_iload_n (i := 2) q169_63 rfl rfl ?_
    refine a_iload q169_64 rfl ?_
    refine a_if_eq (tgt := 73) q169_66 (by decide) (fun zc66 => ?_) (fun zc66 => ?_)
    · skip
      refine a_iconst (v := 0) q169_73 (by decide) ?_
      refine a_iadd q169_74 ?_
      refine a_istore_n (i := 2) (lv' := [(0, _), (1, _), (2, _), (3, _), (4, _), (5, _)]) q169_75 rfl rfl rfl ?_
      refine a_iinc (v := nI (r + 1)) (lv' := [(0, _), (1, _), (2, _), (3, _), (4, _), (5, _)]) q169_76 rfl rfl (nI_1 (r)) rfl ?_
      refine a_goto (tgt := 4) q169_79 (by decide) ?_
      refine AW.pop_less (x := (5, _)) (lv' := [(0, _), (1, _), (2, _), (3, _), (4, _)]) ?_
      refine AW.pop_less (x := (4, _)) (lv' := [(0, _), (1, _), (2, _), (3, _)]) ?_
      have zi := ih (X := X) (o := o) (r := r + 1) (n := n) hn hn40 ho hv (show r + 1 + m = n by omega) hq
      rw [show m_gap A (A o) (r + 1) = m_gap A (A o) r + 0 from if_neg (b2i_z.mp zc66)] at zi
      exact zi
    · skip
      refine a_iconst (v := 1) q169_69 (by decide) ?_
      refine a_goto (tgt := 74) q169_70 (by decide) ?_
      refine a_iadd q169_74 ?_
      refine a_istore_n (i := 2) (lv' := [(0, _), (1, _), (2, _), (3, _), (4, _), (5, _)]) q169_75 rfl rfl rfl ?_
      refine a_iinc (v := nI (r + 1)) (lv' := [(0, _), (1, _), (2, _), (3, _), (4, _), (5, _)]) q169_76 rfl rfl (nI_1 (r)) rfl ?_
      refine a_goto (tgt := 4) q169_79 (by decide) ?_
      refine AW.pop_less (x := (5, _)) (lv' := [(0, _), (1, _), (2, _), (3, _), (4, _)]) ?_
      refine AW.pop_less (x := (4, _)) (lv' := [(0, _), (1, _), (2, _), (3, _)]) ?_
      have zi := ih (X := X) (o := o) (r := r + 1) (n := n) hn hn40 ho hv (show r + 1 + m = n by omega) hq
      rw [show m_gap A (A o) (r + 1) = m_gap A (A o) r + 1 from if_pos (b2i_nz.mp zc66)] at zi
      exact zi

theorem c_X10_gaps {X : XS} {I : Nat → Int32} {A : Nat → Nat → Int32} {L : Nat → Nat → Int64} {O : Nat → UInt64} {Q : AO → AH → Prop} {o : Nat} (ho : o = 29 ∨ o = 30 ∨ o = 31) (hv : vch (A o)) {n : Nat} (hn : I 20 = nI n) (hn40 : n ≤ 40) (hq : Q (.inl (some (.int (m_gap A (A o) n)))) (hp I A L O)) : Call X 169 [.ref 21, .ref o] (hp I A L O) Q := by
  refine call_of (by decide) rfl rfl ?_
  refine a_iconst (v := 0) q169_0 (by decide) ?_
  refine a_istore_n (i := 2) (lv' := [(0, _), (1, _), (2, _)]) q169_1 rfl rfl rfl ?_
  refine a_iconst (v := 0) q169_2 (by decide) ?_
  refine a_istore_n (i := 3) (lv' := [(0, _), (1, _), (2, _), (3, _)]) q169_3 rfl rfl rfl ?_
  exact l_mgaps n (r := 0) hn hn40 ho hv (Nat.zero_add n) hq

def addM (w : Nat → Int32) (s : Int32) : Nat → Nat → Int32 → Int32
  | 0, _, acc => acc
  | m + 1, k, acc => addM w s m (k + 1) (if ((s >>> (nI k &&& 31)) &&& 1) = 1 then acc + w k else acc + 0)
def m_base (A : Nat → Nat → Int32) (f : Nat → Int32) (n : Nat) : Int32 := (((m_gap A f n / 5 + b2i (m_of A f 0 = 3 ∨ m_of A f 0 = 4)) + bv (m_of A f 1 = 2 ∨ m_of A f 1 = 3) 2) + (if m_of A f 2 = 2 then 6 else if m_of A f 2 = 3 then 2 else if m_of A f 2 = 4 then 4 else 0)) + bv (m_of A f 3 = 4) 3
def m_cost (n : Nat) (A : Nat → Nat → Int32) (f : Nat → Int32) : Int32 := addM (A 24) (m_soft (nI n) A f) 8 0 (m_base A f n)
theorem l_mcost (m : Nat) : ∀ {X : XS} {I : Nat → Int32} {A : Nat → Nat → Int32} {L : Nat → Nat → Int64} {O : Nat → UInt64} {Q : AO → AH → Prop} {o k : Nat} {v2 v3 v4 : Int32} {s acc : Int32} (hm : k + m = 8) (hq : Q (.inl (some (.int (addM (A 24) s m k acc)))) (hp I A L O)), AW X 170 138 [(0, .ref 21), (1, .ref o), (2, .int v2), (3, .int v3), (4, .int v4), (5, .int acc), (6, .int s), (7, .int (nI k))] [] (hp I A L O) 0 0 Q := by
  induction m with
  | zero =>
    intro X I A L O Q o k v2 v3 v4 s acc hm hq
    refine a_iload q170_138 rfl ?_
    refine a_bipush (v := 8) q170_140 (by decide) ?_
    refine a_icmp_ge (tgt := 178) q170_142 (by decide) (fun zc142 => ?_) (fun zc142 => absurd (nI_le (show 8 ≤ k by omega) (by omega)) zc142)
    refine a_iload q170_178 rfl ?_
    refine a_ireturn q170_180 (nr_int rfl _) ?_
    exact hq
  | succ m ih =>
    intro X I A L O Q o k v2 v3 v4 s acc hm hq
    refine a_iload q170_138 rfl ?_
    refine a_bipush (v := 8) q170_140 (by decide) ?_
    refine a_icmp_ge (tgt := 178) q170_142 (by decide) (fun zc142 => absurd zc142 (nI_ge (show k < 8 by omega) (by decide))) (fun zc142 => ?_)
    refine a_iload q170_145 rfl ?_
    refine a_iload q170_147 rfl ?_
    refine a_iload q170_149 rfl ?_
    refine a_ishr q170_151 ?_
    refine a_iconst (v := 1) q170_152 (by decide) ?_
    refine a_iand q170_153 ?_
    refine a_iconst (v := 1) q170_154 (by decide) ?_
    refine a_icmp_ne (tgt := 168) q170_155 (by decide) (fun zc155 => ?_) (fun zc155 => ?_)
    · skip
      refine a_iconst (v := 0) q170_168 (by decide) ?_
      refine a_iadd q170_169 ?_
      refine a_istore (i := 5) (lv' := [(0, _), (1, _), (2, _), (3, _), (4, _), (5, _), (6, _), (7, _)]) q170_170 rfl rfl ?_
      refine a_iinc (v := nI (k + 1)) (lv' := [(0, _), (1, _), (2, _), (3, _), (4, _), (5, _), (6, _), (7, _)]) q170_172 rfl rfl (nI_1 (k)) rfl ?_
      refine a_goto (tgt := 138) q170_175 (by decide) ?_
      refine ih (show k + 1 + m = 8 by omega) ?_
      rw [show addM (A 24) s (m + 1) k acc = addM (A 24) s m (k + 1) (if ((s >>> (nI k &&& 31)) &&& 1) = 1 then acc + A 24 k else acc + 0) from rfl, if_neg zc155] at hq
      exact hq
    · skip
      refine a_aload_n (i := 0) q170_158 rfl rfl ?_
      refine a_getfield q170_159 rfl rfl ?_
      refine a_iload q170_162 rfl ?_
      refine a_iald' (j := k) q170_164 rfl rfl (by omega) (by decide) ?_
      refine a_goto (tgt := 169) q170_165 (by decide) ?_
      refine a_iadd q170_169 ?_
      refine a_istore (i := 5) (lv' := [(0, _), (1, _), (2, _), (3, _), (4, _), (5, _), (6, _), (7, _)]) q170_170 rfl rfl ?_
      refine a_iinc (v := nI (k + 1)) (lv' := [(0, _), (1, _), (2, _), (3, _), (4, _), (5, _), (6, _), (7, _)]) q170_172 rfl rfl (nI_1 (k)) rfl ?_
      refine a_goto (tgt := 138) q170_175 (by decide) ?_
      refine ih (show k + 1 + m = 8 by omega) ?_
      rw [show addM (A 24) s (m + 1) k acc = addM (A 24) s m (k + 1) (if ((s >>> (nI k &&& 31)) &&& 1) = 1 then acc + A 24 k else acc + 0) from rfl, if_pos zc155] at hq
      exact hq

theorem c_X10_costOf {X : XS} {I : Nat → Int32} {A : Nat → Nat → Int32} {L : Nat → Nat → Int64} {O : Nat → UInt64} {Q : AO → AH → Prop} {o : Nat} (ho : o = 29 ∨ o = 30 ∨ o = 31) (hv : vch (A o)) {n : Nat} (hn : I 20 = nI n) (hn40 : n ≤ 40) (hq : Q (.inl (some (.int (m_cost n A (A o))))) (hp I A L O)) : Call X 170 [.ref 21, .ref o] (hp I A L O) Q := by
  refine call_of (by decide) rfl rfl ?_
  refine a_aload_n (i := 0) q170_0 rfl rfl ?_
  refine a_aload_n (i := 1) q170_1 rfl rfl ?_
  refine a_iconst (v := 0) q170_2 (by decide) ?_
  refine a_cv2 q170_3 rfl rfl ⟨rfl, rfl⟩ rfl ?_
  refine c_X10_of (k := 0) ho hv (by decide) ?_
  refine ck_r ?_
  refine a_istore_n (i := 2) (lv' := [(0, _), (1, _), (2, _)]) q170_6 rfl rfl rfl ?_
  refine a_aload_n (i := 0) q170_7 rfl rfl ?_
  refine a_aload_n (i := 1) q170_8 rfl rfl ?_
  refine a_iconst (v := 1) q170_9 (by decide) ?_
  refine a_cv2 q170_10 rfl rfl ⟨rfl, rfl⟩ rfl ?_
  refine c_X10_of (k := 1) ho hv (by decide) ?_
  refine ck_r ?_
  refine a_istore_n (i := 3) (lv' := [(0, _), (1, _), (2, _), (3, _)]) q170_13 rfl rfl rfl ?_
  refine a_aload_n (i := 0) q170_14 rfl rfl ?_
  refine a_aload_n (i := 1) q170_15 rfl rfl ?_
  refine a_iconst (v := 2) q170_16 (by decide) ?_
  refine a_cv2 q170_17 rfl rfl ⟨rfl, rfl⟩ rfl ?_
  refine c_X10_of (k := 2) ho hv (by decide) ?_
  refine ck_r ?_
  refine a_istore (i := 4) (lv' := [(0, _), (1, _), (2, _), (3, _), (4, _)]) q170_20 rfl rfl ?_
  refine a_aload_n (i := 0) q170_22 rfl rfl ?_
  refine a_aload_n (i := 1) q170_23 rfl rfl ?_
  refine a_cv1 q170_24 rfl rfl ⟨rfl, rfl⟩ rfl ?_
  refine c_X10_gaps ho hv hn hn40 ?_
  refine ck_r ?_
  refine a_iconst (v := 5) q170_27 (by decide) ?_
  refine a_idiv q170_28 (by decide) ?_
  refine a_istore (i := 5) (lv' := [(0, _), (1, _), (2, _), (3, _), (4, _), (5, _)]) q170_29 rfl rfl ?_
  refine a_iload q170_31 rfl ?_
  refine AW.cut 48 (b2i (m_of A (A o) 0 = 3 ∨ m_of A (A o) 0 = 4)) (fun zk48 => ?_) ?_
  · skip
    refine a_iload_n (i := 2) q170_33 rfl rfl ?_
    refine a_iconst (v := 3) q170_34 (by decide) ?_
    refine a_icmp_eq (tgt := 43) q170_35 (by decide) (fun zc35 => ?_) (fun zc35 => ?_)
    · skip
      refine a_iconst (v := 1) q170_43 (by decide) ?_
      refine a_goto (tgt := 48) q170_44 (by decide) ?_
      exact cutv zk48 (b2i_t (Or.inl zc35))
    · skip
      refine a_iload_n (i := 2) q170_38 rfl rfl ?_
      refine a_iconst (v := 4) q170_39 (by decide) ?_
      refine a_icmp_ne (tgt := 47) q170_40 (by decide) (fun zc40 => ?_) (fun zc40 => ?_)
      · skip
        refine a_iconst (v := 0) q170_47 (by decide) ?_
        exact cutv zk48 (b2i_f (fun zz => zz.elim zc35 zc40))
      · skip
        refine a_iconst (v := 1) q170_43 (by decide) ?_
        refine a_goto (tgt := 48) q170_44 (by decide) ?_
        exact cutv zk48 (b2i_t (Or.inr zc40))
  refine a_iadd q170_48 ?_
  refine a_istore (i := 5) (lv' := [(0, _), (1, _), (2, _), (3, _), (4, _), (5, _)]) q170_49 rfl rfl ?_
  refine a_iload q170_51 rfl ?_
  refine AW.cut 68 (bv (m_of A (A o) 1 = 2 ∨ m_of A (A o) 1 = 3) 2) (fun zk68 => ?_) ?_
  · skip
    refine a_iload_n (i := 3) q170_53 rfl rfl ?_
    refine a_iconst (v := 2) q170_54 (by decide) ?_
    refine a_icmp_eq (tgt := 63) q170_55 (by decide) (fun zc55 => ?_) (fun zc55 => ?_)
    · skip
      refine a_iconst (v := 2) q170_63 (by decide) ?_
      refine a_goto (tgt := 68) q170_64 (by decide) ?_
      exact cutv zk68 (if_pos (Or.inl zc55))
    · skip
      refine a_iload_n (i := 3) q170_58 rfl rfl ?_
      refine a_iconst (v := 3) q170_59 (by decide) ?_
      refine a_icmp_ne (tgt := 67) q170_60 (by decide) (fun zc60 => ?_) (fun zc60 => ?_)
      · skip
        refine a_iconst (v := 0) q170_67 (by decide) ?_
        exact cutv zk68 (if_neg (fun zz => zz.elim zc55 zc60))
      · skip
        refine a_iconst (v := 2) q170_63 (by decide) ?_
        refine a_goto (tgt := 68) q170_64 (by decide) ?_
        exact cutv zk68 (if_pos (Or.inr zc60))
  refine a_iadd q170_68 ?_
  refine a_istore (i := 5) (lv' := [(0, _), (1, _), (2, _), (3, _), (4, _), (5, _)]) q170_69 rfl rfl ?_
  refine a_iload q170_71 rfl ?_
  refine AW.cut 105 ((if m_of A (A o) 2 = 2 then 6 else if m_of A (A o) 2 = 3 then 2 else if m_of A (A o) 2 = 4 then 4 else 0)) (fun zk105 => ?_) ?_
  · skip
    refine a_iload q170_73 rfl ?_
    refine a_iconst (v := 2) q170_75 (by decide) ?_
    refine a_icmp_ne (tgt := 84) q170_76 (by decide) (fun zc76 => ?_) (fun zc76 => ?_)
    · skip
      refine a_iload q170_84 rfl ?_
      refine a_iconst (v := 3) q170_86 (by decide) ?_
      refine a_icmp_ne (tgt := 94) q170_87 (by decide) (fun zc87 => ?_) (fun zc87 => ?_)
      · skip
        refine a_iload q170_94 rfl ?_
        refine a_iconst (v := 4) q170_96 (by decide) ?_
        refine a_icmp_ne (tgt := 104) q170_97 (by decide) (fun zc97 => ?_) (fun zc97 => ?_)
        · skip
          refine a_iconst (v := 0) q170_104 (by decide) ?_
          exact cutv zk105 ((if_neg zc76).trans ((if_neg zc87).trans (if_neg zc97)))
        · skip
          refine a_iconst (v := 4) q170_100 (by decide) ?_
          refine a_goto (tgt := 105) q170_101 (by decide) ?_
          exact cutv zk105 ((if_neg zc76).trans ((if_neg zc87).trans (if_pos zc97)))
      · skip
        refine a_iconst (v := 2) q170_90 (by decide) ?_
        refine a_goto (tgt := 105) q170_91 (by decide) ?_
        exact cutv zk105 ((if_neg zc76).trans (if_pos zc87))
    · skip
      refine a_bipush (v := 6) q170_79 (by decide) ?_
      refine a_goto (tgt := 105) q170_81 (by decide) ?_
      exact cutv zk105 (if_pos zc76)
  refine a_iadd q170_105 ?_
  refine a_istore (i := 5) (lv' := [(0, _), (1, _), (2, _), (3, _), (4, _), (5, _)]) q170_106 rfl rfl ?_
  refine a_iload q170_108 rfl ?_
  refine AW.cut 125 (bv (m_of A (A o) 3 = 4) 3) (fun zk125 => ?_) ?_
  · skip
    refine a_aload_n (i := 0) q170_110 rfl rfl ?_
    refine a_aload_n (i := 1) q170_111 rfl rfl ?_
    refine a_iconst (v := 3) q170_112 (by decide) ?_
    refine a_cv2 q170_113 rfl rfl ⟨rfl, rfl⟩ rfl ?_
    refine c_X10_of (k := 3) ho hv (by decide) ?_
    refine ck_r ?_
    refine a_iconst (v := 4) q170_116 (by decide) ?_
    refine a_icmp_ne (tgt := 124) q170_117 (by decide) (fun zc117 => ?_) (fun zc117 => ?_)
    · skip
      refine a_iconst (v := 0) q170_124 (by decide) ?_
      exact cutv zk125 (if_neg (zc117))
    · skip
      refine a_iconst (v := 3) q170_120 (by decide) ?_
      refine a_goto (tgt := 125) q170_121 (by decide) ?_
      exact cutv zk125 (if_pos (zc117))
  refine a_iadd q170_125 ?_
  refine a_istore (i := 5) (lv' := [(0, _), (1, _), (2, _), (3, _), (4, _), (5, _)]) q170_126 rfl rfl ?_
  refine a_aload_n (i := 0) q170_128 rfl rfl ?_
  refine a_aload_n (i := 1) q170_129 rfl rfl ?_
  refine a_cv1 q170_130 rfl rfl ⟨rfl, rfl⟩ rfl ?_
  refine c_X10_soft ho hv ?_
  refine ck_r ?_
  refine a_istore (i := 6) (lv' := [(0, _), (1, _), (2, _), (3, _), (4, _), (5, _), (6, _)]) q170_133 rfl rfl ?_
  refine a_iconst (v := 0) q170_135 (by decide) ?_
  refine a_istore (i := 7) (lv' := [(0, _), (1, _), (2, _), (3, _), (4, _), (5, _), (6, _), (7, _)]) q170_136 rfl rfl ?_
  exact l_mcost 8 (k := 0) rfl (lfi hq (by rw [hn]; rfl))

abbrev lkT (f g : Nat → Int32) (c : Nat) : Prop := ∀ e, e < c → f e = g e
theorem lkT_s (f g : Nat → Int32) (c : Nat) : lkT f g (c + 1) ↔ lkT f g c ∧ f c = g c := by
  refine ⟨fun h => ⟨fun e he => h e (by omega), h c (by omega)⟩, fun h e he => ?_⟩
  by_cases zz : e = c
  · rw [zz]; exact h.2
  · exact h.1 e (by omega)
theorem lkT_0 (f g : Nat → Int32) : (1 : Int32) = b2i (lkT f g 0) := (b2i_t (fun _ zz => absurd zz (Nat.not_lt_zero _))).symm
theorem l_mlike (m : Nat) : ∀ {X : XS} {I : Nat → Int32} {A : Nat → Nat → Int32} {L : Nat → Nat → Int64} {O : Nat → UInt64} {Q : AO → AH → Prop} {c : Nat} (hm : c + m = 6) (hq : Q (.inl (some (.int (b2i (lkT (A 29) (A 30) 6))))) (hp I A L O)), AW X 172 5 [(0, .ref 21), (1, .ref 29), (2, .ref 30), (3, .int (b2i (lkT (A 29) (A 30) c))), (4, .int (nI c))] [] (hp I A L O) 0 0 Q := by
  induction m with
  | zero =>
    intro X I A L O Q c hm hq
    refine a_iload q172_5 rfl ?_
    refine a_bipush (v := 6) q172_7 (by decide) ?_
    refine a_icmp_ge (tgt := 37) q172_9 (by decide) (fun zc9 => ?_) (fun zc9 => absurd (nI_le (show 6 ≤ c by omega) (by omega)) zc9)
    refine a_iload_n (i := 3) q172_37 rfl rfl ?_
    refine a_ireturn q172_38 (nr_bool rfl b2i_01) ?_
    have zr : c = 6 := by omega
    subst zr
    exact hq
  | succ m ih =>
    intro X I A L O Q c hm hq
    refine a_iload q172_5 rfl ?_
    refine a_bipush (v := 6) q172_7 (by decide) ?_
    refine a_icmp_ge (tgt := 37) q172_9 (by decide) (fun zc9 => absurd zc9 (nI_ge (show c < 6 by omega) (by decide))) (fun zc9 => ?_)
    refine a_iload_n (i := 3) q172_12 rfl rfl ?_
    refine AW.cut 29 (b2i (A 29 c = A 30 c)) (fun zk29 => ?_) ?_
    · skip
      refine a_aload_n (i := 1) q172_13 rfl rfl ?_
      refine a_iload q172_14 rfl ?_
      refine a_iald' (j := c) q172_16 rfl rfl (by omega) (by decide) ?_
      refine a_aload_n (i := 2) q172_17 rfl rfl ?_
      refine a_iload q172_18 rfl ?_
      refine a_iald' (j := c) q172_20 rfl rfl (by omega) (by decide) ?_
      refine a_icmp_ne (tgt := 28) q172_21 (by decide) (fun zc21 => ?_) (fun zc21 => ?_)
      · skip
        refine a_iconst (v := 0) q172_28 (by decide) ?_
        exact cutv zk29 (b2i_f zc21)
      · skip
        refine a_iconst (v := 1) q172_24 (by decide) ?_
        refine a_goto (tgt := 29) q172_25 (by decide) ?_
        exact cutv zk29 (b2i_t zc21)
    refine a_iand q172_29 ?_
    refine AW.ti (b2i_andI (lkT_s (A 29) (A 30) c)) ?_
    refine a_istore_n (i := 3) (lv' := [(0, _), (1, _), (2, _), (3, _), (4, _)]) q172_30 rfl rfl rfl ?_
    refine a_iinc (v := nI (c + 1)) (lv' := [(0, _), (1, _), (2, _), (3, _), (4, _)]) q172_31 rfl rfl (nI_1 (c)) rfl ?_
    refine a_goto (tgt := 5) q172_34 (by decide) ?_
    exact ih (show c + 1 + m = 6 by omega) hq

theorem c_X10_isLike {X : XS} {I : Nat → Int32} {A : Nat → Nat → Int32} {L : Nat → Nat → Int64} {O : Nat → UInt64} {Q : AO → AH → Prop}  (hq : Q (.inl (some (.int (b2i (lkT (A 29) (A 30) 6))))) (hp I A L O)) : Call X 172 [.ref 21, .ref 29, .ref 30] (hp I A L O) Q := by
  refine call_of (by decide) rfl rfl ?_
  refine a_iconst (v := 1) q172_0 (by decide) ?_
  refine AW.ti (lkT_0 (A 29) (A 30)) ?_
  refine a_istore_n (i := 3) (lv' := [(0, _), (1, _), (2, _), (3, _)]) q172_1 rfl rfl rfl ?_
  refine a_iconst (v := 0) q172_2 (by decide) ?_
  refine a_istore (i := 4) (lv' := [(0, _), (1, _), (2, _), (3, _), (4, _)]) q172_3 rfl rfl ?_
  exact l_mlike 6 (c := 0) rfl hq

abbrev m_ds (f : Nat → Int32) (k j : Nat) : Prop := f k < 0 ∨ ¬ f k = f j
abbrev m_dst (f : Nat → Int32) : Prop := ((((m_ds f 3 2 ∧ m_ds f 4 2) ∧ m_ds f 4 3) ∧ m_ds f 5 2) ∧ m_ds f 5 3) ∧ m_ds f 5 4
theorem c_X10_isDistinct {X : XS} {I : Nat → Int32} {A : Nat → Nat → Int32} {L : Nat → Nat → Int64} {O : Nat → UInt64} {Q : AO → AH → Prop}  (hq : Q (.inl (some (.int (b2i (m_dst (A 29)))))) (hp I A L O)) : Call X 174 [.ref 21] (hp I A L O) Q := by
  refine call_of (by decide) rfl rfl ?_
  refine a_iconst (v := 1) q174_0 (by decide) ?_
  refine a_istore_n (i := 1) (lv' := [(0, _), (1, _)]) q174_1 rfl rfl rfl ?_
  refine a_iconst (v := 2) q174_2 (by decide) ?_
  refine a_istore_n (i := 2) (lv' := [(0, _), (1, _), (2, _)]) q174_3 rfl rfl rfl ?_
  refine a_iload_n (i := 2) q174_4 rfl rfl ?_
  refine a_bipush (v := 6) q174_5 (by decide) ?_
  refine a_icmp_ge (tgt := 61) q174_7 (by decide) (fun zc7 => absurd zc7 (by decide)) (fun zc7 => ?_)
  refine a_iconst (v := 2) q174_10 (by decide) ?_
  refine a_istore_n (i := 3) (lv' := [(0, _), (1, _), (2, _), (3, _)]) q174_11 rfl rfl rfl ?_
  refine a_iload_n (i := 3) q174_12 rfl rfl ?_
  refine a_iload_n (i := 2) q174_13 rfl rfl ?_
  refine a_icmp_ge (tgt := 55) q174_14 (by decide) (fun zc14 => ?_) (fun zc14 => absurd (by decide) zc14)
  refine a_iinc (v := nI (2 + 1)) (lv' := [(0, _), (1, _), (2, _), (3, _)]) q174_55 rfl rfl (nI_1 (2)) rfl ?_
  refine a_goto (tgt := 4) q174_58 (by decide) ?_
  refine a_iload_n (i := 2) q174_4 rfl rfl ?_
  refine a_bipush (v := 6) q174_5 (by decide) ?_
  refine a_icmp_ge (tgt := 61) q174_7 (by decide) (fun zc7_1 => absurd zc7_1 (by decide)) (fun zc7_1 => ?_)
  refine a_iconst (v := 2) q174_10 (by decide) ?_
  refine a_istore_n (i := 3) (lv' := [(0, _), (1, _), (2, _), (3, _)]) q174_11 rfl rfl rfl ?_
  refine a_iload_n (i := 3) q174_12 rfl rfl ?_
  refine a_iload_n (i := 2) q174_13 rfl rfl ?_
  refine a_icmp_ge (tgt := 55) q174_14 (by decide) (fun zc14_1 => absurd zc14_1 (by decide)) (fun zc14_1 => ?_)
  refine a_iload_n (i := 1) q174_17 rfl rfl ?_
  refine AW.cut 47 (b2i (m_ds (A 29) 3 2)) (fun zk47 => ?_) ?_
  · skip
    refine a_aload_n (i := 0) q174_18 rfl rfl ?_
    refine a_getfield q174_19 rfl rfl ?_
    refine a_iload_n (i := 2) q174_22 rfl rfl ?_
    refine a_iald' (j := 3) q174_23 rfl rfl (by decide) (by decide) ?_
    refine a_if_lt (tgt := 42) q174_24 (by decide) (fun zc24 => ?_) (fun zc24 => ?_)
    · skip
      refine a_iconst (v := 1) q174_42 (by decide) ?_
      refine a_goto (tgt := 47) q174_43 (by decide) ?_
      exact cutv zk47 (b2i_t (Or.inl zc24))
    · skip
      refine a_aload_n (i := 0) q174_27 rfl rfl ?_
      refine a_getfield q174_28 rfl rfl ?_
      refine a_iload_n (i := 2) q174_31 rfl rfl ?_
      refine a_iald' (j := 3) q174_32 rfl rfl (by decide) (by decide) ?_
      refine a_aload_n (i := 0) q174_33 rfl rfl ?_
      refine a_getfield q174_34 rfl rfl ?_
      refine a_iload_n (i := 3) q174_37 rfl rfl ?_
      refine a_iald' (j := 2) q174_38 rfl rfl (by decide) (by decide) ?_
      refine a_icmp_eq (tgt := 46) q174_39 (by decide) (fun zc39 => ?_) (fun zc39 => ?_)
      · skip
        refine a_iconst (v := 0) q174_46 (by decide) ?_
        exact cutv zk47 (b2i_f (fun zz => zz.elim zc24 (fun z2 => z2 zc39)))
      · skip
        refine a_iconst (v := 1) q174_42 (by decide) ?_
        refine a_goto (tgt := 47) q174_43 (by decide) ?_
        exact cutv zk47 (b2i_t (Or.inr zc39))
  refine a_iand q174_47 ?_
  refine AW.ti (b2i_andI (p := True) (q := m_ds (A 29) 3 2) (r := m_ds (A 29) 3 2) true_andI) ?_
  refine a_istore_n (i := 1) (lv' := [(0, _), (1, _), (2, _), (3, _)]) q174_48 rfl rfl rfl ?_
  refine a_iinc (v := nI (2 + 1)) (lv' := [(0, _), (1, _), (2, _), (3, _)]) q174_49 rfl rfl (nI_1 (2)) rfl ?_
  refine a_goto (tgt := 12) q174_52 (by decide) ?_
  refine a_iload_n (i := 3) q174_12 rfl rfl ?_
  refine a_iload_n (i := 2) q174_13 rfl rfl ?_
  refine a_icmp_ge (tgt := 55) q174_14 (by decide) (fun zc14_2 => ?_) (fun zc14_2 => absurd (by decide) zc14_2)
  refine a_iinc (v := nI (3 + 1)) (lv' := [(0, _), (1, _), (2, _), (3, _)]) q174_55 rfl rfl (nI_1 (3)) rfl ?_
  refine a_goto (tgt := 4) q174_58 (by decide) ?_
  refine a_iload_n (i := 2) q174_4 rfl rfl ?_
  refine a_bipush (v := 6) q174_5 (by decide) ?_
  refine a_icmp_ge (tgt := 61) q174_7 (by decide) (fun zc7_2 => absurd zc7_2 (by decide)) (fun zc7_2 => ?_)
  refine a_iconst (v := 2) q174_10 (by decide) ?_
  refine a_istore_n (i := 3) (lv' := [(0, _), (1, _), (2, _), (3, _)]) q174_11 rfl rfl rfl ?_
  refine a_iload_n (i := 3) q174_12 rfl rfl ?_
  refine a_iload_n (i := 2) q174_13 rfl rfl ?_
  refine a_icmp_ge (tgt := 55) q174_14 (by decide) (fun zc14_3 => absurd zc14_3 (by decide)) (fun zc14_3 => ?_)
  refine a_iload_n (i := 1) q174_17 rfl rfl ?_
  refine AW.cut 47 (b2i (m_ds (A 29) 4 2)) (fun zk47 => ?_) ?_
  · skip
    refine a_aload_n (i := 0) q174_18 rfl rfl ?_
    refine a_getfield q174_19 rfl rfl ?_
    refine a_iload_n (i := 2) q174_22 rfl rfl ?_
    refine a_iald' (j := 4) q174_23 rfl rfl (by decide) (by decide) ?_
    refine a_if_lt (tgt := 42) q174_24 (by decide) (fun zc24 => ?_) (fun zc24 => ?_)
    · skip
      refine a_iconst (v := 1) q174_42 (by decide) ?_
      refine a_goto (tgt := 47) q174_43 (by decide) ?_
      exact cutv zk47 (b2i_t (Or.inl zc24))
    · skip
      refine a_aload_n (i := 0) q174_27 rfl rfl ?_
      refine a_getfield q174_28 rfl rfl ?_
      refine a_iload_n (i := 2) q174_31 rfl rfl ?_
      refine a_iald' (j := 4) q174_32 rfl rfl (by decide) (by decide) ?_
      refine a_aload_n (i := 0) q174_33 rfl rfl ?_
      refine a_getfield q174_34 rfl rfl ?_
      refine a_iload_n (i := 3) q174_37 rfl rfl ?_
      refine a_iald' (j := 2) q174_38 rfl rfl (by decide) (by decide) ?_
      refine a_icmp_eq (tgt := 46) q174_39 (by decide) (fun zc39 => ?_) (fun zc39 => ?_)
      · skip
        refine a_iconst (v := 0) q174_46 (by decide) ?_
        exact cutv zk47 (b2i_f (fun zz => zz.elim zc24 (fun z2 => z2 zc39)))
      · skip
        refine a_iconst (v := 1) q174_42 (by decide) ?_
        refine a_goto (tgt := 47) q174_43 (by decide) ?_
        exact cutv zk47 (b2i_t (Or.inr zc39))
  refine a_iand q174_47 ?_
  refine AW.ti (b2i_andI (p := m_ds (A 29) 3 2) (q := m_ds (A 29) 4 2) (r := m_ds (A 29) 3 2 ∧ m_ds (A 29) 4 2) Iff.rfl) ?_
  refine a_istore_n (i := 1) (lv' := [(0, _), (1, _), (2, _), (3, _)]) q174_48 rfl rfl rfl ?_
  refine a_iinc (v := nI (2 + 1)) (lv' := [(0, _), (1, _), (2, _), (3, _)]) q174_49 rfl rfl (nI_1 (2)) rfl ?_
  refine a_goto (tgt := 12) q174_52 (by decide) ?_
  refine a_iload_n (i := 3) q174_12 rfl rfl ?_
  refine a_iload_n (i := 2) q174_13 rfl rfl ?_
  refine a_icmp_ge (tgt := 55) q174_14 (by decide) (fun zc14_4 => absurd zc14_4 (by decide)) (fun zc14_4 => ?_)
  refine a_iload_n (i := 1) q174_17 rfl rfl ?_
  refine AW.cut 47 (b2i (m_ds (A 29) 4 3)) (fun zk47 => ?_) ?_
  · skip
    refine a_aload_n (i := 0) q174_18 rfl rfl ?_
    refine a_getfield q174_19 rfl rfl ?_
    refine a_iload_n (i := 2) q174_22 rfl rfl ?_
    refine a_iald' (j := 4) q174_23 rfl rfl (by decide) (by decide) ?_
    refine a_if_lt (tgt := 42) q174_24 (by decide) (fun zc24 => ?_) (fun zc24 => ?_)
    · skip
      refine a_iconst (v := 1) q174_42 (by decide) ?_
      refine a_goto (tgt := 47) q174_43 (by decide) ?_
      exact cutv zk47 (b2i_t (Or.inl zc24))
    · skip
      refine a_aload_n (i := 0) q174_27 rfl rfl ?_
      refine a_getfield q174_28 rfl rfl ?_
      refine a_iload_n (i := 2) q174_31 rfl rfl ?_
      refine a_iald' (j := 4) q174_32 rfl rfl (by decide) (by decide) ?_
      refine a_aload_n (i := 0) q174_33 rfl rfl ?_
      refine a_getfield q174_34 rfl rfl ?_
      refine a_iload_n (i := 3) q174_37 rfl rfl ?_
      refine a_iald' (j := 3) q174_38 rfl rfl (by decide) (by decide) ?_
      refine a_icmp_eq (tgt := 46) q174_39 (by decide) (fun zc39 => ?_) (fun zc39 => ?_)
      · skip
        refine a_iconst (v := 0) q174_46 (by decide) ?_
        exact cutv zk47 (b2i_f (fun zz => zz.elim zc24 (fun z2 => z2 zc39)))
      · skip
        refine a_iconst (v := 1) q174_42 (by decide) ?_
        refine a_goto (tgt := 47) q174_43 (by decide) ?_
        exact cutv zk47 (b2i_t (Or.inr zc39))
  refine a_iand q174_47 ?_
  refine AW.ti (b2i_andI (p := m_ds (A 29) 3 2 ∧ m_ds (A 29) 4 2) (q := m_ds (A 29) 4 3) (r := (m_ds (A 29) 3 2 ∧ m_ds (A 29) 4 2) ∧ m_ds (A 29) 4 3) Iff.rfl) ?_
  refine a_istore_n (i := 1) (lv' := [(0, _), (1, _), (2, _), (3, _)]) q174_48 rfl rfl rfl ?_
  refine a_iinc (v := nI (3 + 1)) (lv' := [(0, _), (1, _), (2, _), (3, _)]) q174_49 rfl rfl (nI_1 (3)) rfl ?_
  refine a_goto (tgt := 12) q174_52 (by decide) ?_
  refine a_iload_n (i := 3) q174_12 rfl rfl ?_
  refine a_iload_n (i := 2) q174_13 rfl rfl ?_
  refine a_icmp_ge (tgt := 55) q174_14 (by decide) (fun zc14_5 => ?_) (fun zc14_5 => absurd (by decide) zc14_5)
  refine a_iinc (v := nI (4 + 1)) (lv' := [(0, _), (1, _), (2, _), (3, _)]) q174_55 rfl rfl (nI_1 (4)) rfl ?_
  refine a_goto (tgt := 4) q174_58 (by decide) ?_
  refine a_iload_n (i := 2) q174_4 rfl rfl ?_
  refine a_bipush (v := 6) q174_5 (by decide) ?_
  refine a_icmp_ge (tgt := 61) q174_7 (by decide) (fun zc7_3 => absurd zc7_3 (by decide)) (fun zc7_3 => ?_)
  refine a_iconst (v := 2) q174_10 (by decide) ?_
  refine a_istore_n (i := 3) (lv' := [(0, _), (1, _), (2, _), (3, _)]) q174_11 rfl rfl rfl ?_
  refine a_iload_n (i := 3) q174_12 rfl rfl ?_
  refine a_iload_n (i := 2) q174_13 rfl rfl ?_
  refine a_icmp_ge (tgt := 55) q174_14 (by decide) (fun zc14_6 => absurd zc14_6 (by decide)) (fun zc14_6 => ?_)
  refine a_iload_n (i := 1) q174_17 rfl rfl ?_
  refine AW.cut 47 (b2i (m_ds (A 29) 5 2)) (fun zk47 => ?_) ?_
  · skip
    refine a_aload_n (i := 0) q174_18 rfl rfl ?_
    refine a_getfield q174_19 rfl rfl ?_
    refine a_iload_n (i := 2) q174_22 rfl rfl ?_
    refine a_iald' (j := 5) q174_23 rfl rfl (by decide) (by decide) ?_
    refine a_if_lt (tgt := 42) q174_24 (by decide) (fun zc24 => ?_) (fun zc24 => ?_)
    · skip
      refine a_iconst (v := 1) q174_42 (by decide) ?_
      refine a_goto (tgt := 47) q174_43 (by decide) ?_
      exact cutv zk47 (b2i_t (Or.inl zc24))
    · skip
      refine a_aload_n (i := 0) q174_27 rfl rfl ?_
      refine a_getfield q174_28 rfl rfl ?_
      refine a_iload_n (i := 2) q174_31 rfl rfl ?_
      refine a_iald' (j := 5) q174_32 rfl rfl (by decide) (by decide) ?_
      refine a_aload_n (i := 0) q174_33 rfl rfl ?_
      refine a_getfield q174_34 rfl rfl ?_
      refine a_iload_n (i := 3) q174_37 rfl rfl ?_
      refine a_iald' (j := 2) q174_38 rfl rfl (by decide) (by decide) ?_
      refine a_icmp_eq (tgt := 46) q174_39 (by decide) (fun zc39 => ?_) (fun zc39 => ?_)
      · skip
        refine a_iconst (v := 0) q174_46 (by decide) ?_
        exact cutv zk47 (b2i_f (fun zz => zz.elim zc24 (fun z2 => z2 zc39)))
      · skip
        refine a_iconst (v := 1) q174_42 (by decide) ?_
        refine a_goto (tgt := 47) q174_43 (by decide) ?_
        exact cutv zk47 (b2i_t (Or.inr zc39))
  refine a_iand q174_47 ?_
  refine AW.ti (b2i_andI (p := (m_ds (A 29) 3 2 ∧ m_ds (A 29) 4 2) ∧ m_ds (A 29) 4 3) (q := m_ds (A 29) 5 2) (r := ((m_ds (A 29) 3 2 ∧ m_ds (A 29) 4 2) ∧ m_ds (A 29) 4 3) ∧ m_ds (A 29) 5 2) Iff.rfl) ?_
  refine a_istore_n (i := 1) (lv' := [(0, _), (1, _), (2, _), (3, _)]) q174_48 rfl rfl rfl ?_
  refine a_iinc (v := nI (2 + 1)) (lv' := [(0, _), (1, _), (2, _), (3, _)]) q174_49 rfl rfl (nI_1 (2)) rfl ?_
  refine a_goto (tgt := 12) q174_52 (by decide) ?_
  refine a_iload_n (i := 3) q174_12 rfl rfl ?_
  refine a_iload_n (i := 2) q174_13 rfl rfl ?_
  refine a_icmp_ge (tgt := 55) q174_14 (by decide) (fun zc14_7 => absurd zc14_7 (by decide)) (fun zc14_7 => ?_)
  refine a_iload_n (i := 1) q174_17 rfl rfl ?_
  refine AW.cut 47 (b2i (m_ds (A 29) 5 3)) (fun zk47 => ?_) ?_
  · skip
    refine a_aload_n (i := 0) q174_18 rfl rfl ?_
    refine a_getfield q174_19 rfl rfl ?_
    refine a_iload_n (i := 2) q174_22 rfl rfl ?_
    refine a_iald' (j := 5) q174_23 rfl rfl (by decide) (by decide) ?_
    refine a_if_lt (tgt := 42) q174_24 (by decide) (fun zc24 => ?_) (fun zc24 => ?_)
    · skip
      refine a_iconst (v := 1) q174_42 (by decide) ?_
      refine a_goto (tgt := 47) q174_43 (by decide) ?_
      exact cutv zk47 (b2i_t (Or.inl zc24))
    · skip
      refine a_aload_n (i := 0) q174_27 rfl rfl ?_
      refine a_getfield q174_28 rfl rfl ?_
      refine a_iload_n (i := 2) q174_31 rfl rfl ?_
      refine a_iald' (j := 5) q174_32 rfl rfl (by decide) (by decide) ?_
      refine a_aload_n (i := 0) q174_33 rfl rfl ?_
      refine a_getfield q174_34 rfl rfl ?_
      refine a_iload_n (i := 3) q174_37 rfl rfl ?_
      refine a_iald' (j := 3) q174_38 rfl rfl (by decide) (by decide) ?_
      refine a_icmp_eq (tgt := 46) q174_39 (by decide) (fun zc39 => ?_) (fun zc39 => ?_)
      · skip
        refine a_iconst (v := 0) q174_46 (by decide) ?_
        exact cutv zk47 (b2i_f (fun zz => zz.elim zc24 (fun z2 => z2 zc39)))
      · skip
        refine a_iconst (v := 1) q174_42 (by decide) ?_
        refine a_goto (tgt := 47) q174_43 (by decide) ?_
        exact cutv zk47 (b2i_t (Or.inr zc39))
  refine a_iand q174_47 ?_
  refine AW.ti (b2i_andI (p := ((m_ds (A 29) 3 2 ∧ m_ds (A 29) 4 2) ∧ m_ds (A 29) 4 3) ∧ m_ds (A 29) 5 2) (q := m_ds (A 29) 5 3) (r := (((m_ds (A 29) 3 2 ∧ m_ds (A 29) 4 2) ∧ m_ds (A 29) 4 3) ∧ m_ds (A 29) 5 2) ∧ m_ds (A 29) 5 3) Iff.rfl) ?_
  refine a_istore_n (i := 1) (lv' := [(0, _), (1, _), (2, _), (3, _)]) q174_48 rfl rfl rfl ?_
  refine a_iinc (v := nI (3 + 1)) (lv' := [(0, _), (1, _), (2, _), (3, _)]) q174_49 rfl rfl (nI_1 (3)) rfl ?_
  refine a_goto (tgt := 12) q174_52 (by decide) ?_
  refine a_iload_n (i := 3) q174_12 rfl rfl ?_
  refine a_iload_n (i := 2) q174_13 rfl rfl ?_
  refine a_icmp_ge (tgt := 55) q174_14 (by decide) (fun zc14_8 => absurd zc14_8 (by decide)) (fun zc14_8 => ?_)
  refine a_iload_n (i := 1) q174_17 rfl rfl ?_
  refine AW.cut 47 (b2i (m_ds (A 29) 5 4)) (fun zk47 => ?_) ?_
  · skip
    refine a_aload_n (i := 0) q174_18 rfl rfl ?_
    refine a_getfield q174_19 rfl rfl ?_
    refine a_iload_n (i := 2) q174_22 rfl rfl ?_
    refine a_iald' (j := 5) q174_23 rfl rfl (by decide) (by decide) ?_
    refine a_if_lt (tgt := 42) q174_24 (by decide) (fun zc24 => ?_) (fun zc24 => ?_)
    · skip
      refine a_iconst (v := 1) q174_42 (by decide) ?_
      refine a_goto (tgt := 47) q174_43 (by decide) ?_
      exact cutv zk47 (b2i_t (Or.inl zc24))
    · skip
      refine a_aload_n (i := 0) q174_27 rfl rfl ?_
      refine a_getfield q174_28 rfl rfl ?_
      refine a_iload_n (i := 2) q174_31 rfl rfl ?_
      refine a_iald' (j := 5) q174_32 rfl rfl (by decide) (by decide) ?_
      refine a_aload_n (i := 0) q174_33 rfl rfl ?_
      refine a_getfield q174_34 rfl rfl ?_
      refine a_iload_n (i := 3) q174_37 rfl rfl ?_
      refine a_iald' (j := 4) q174_38 rfl rfl (by decide) (by decide) ?_
      refine a_icmp_eq (tgt := 46) q174_39 (by decide) (fun zc39 => ?_) (fun zc39 => ?_)
      · skip
        refine a_iconst (v := 0) q174_46 (by decide) ?_
        exact cutv zk47 (b2i_f (fun zz => zz.elim zc24 (fun z2 => z2 zc39)))
      · skip
        refine a_iconst (v := 1) q174_42 (by decide) ?_
        refine a_goto (tgt := 47) q174_43 (by decide) ?_
        exact cutv zk47 (b2i_t (Or.inr zc39))
  refine a_iand q174_47 ?_
  refine AW.ti (b2i_andI (p := (((m_ds (A 29) 3 2 ∧ m_ds (A 29) 4 2) ∧ m_ds (A 29) 4 3) ∧ m_ds (A 29) 5 2) ∧ m_ds (A 29) 5 3) (q := m_ds (A 29) 5 4) (r := ((((m_ds (A 29) 3 2 ∧ m_ds (A 29) 4 2) ∧ m_ds (A 29) 4 3) ∧ m_ds (A 29) 5 2) ∧ m_ds (A 29) 5 3) ∧ m_ds (A 29) 5 4) Iff.rfl) ?_
  refine a_istore_n (i := 1) (lv' := [(0, _), (1, _), (2, _), (3, _)]) q174_48 rfl rfl rfl ?_
  refine a_iinc (v := nI (4 + 1)) (lv' := [(0, _), (1, _), (2, _), (3, _)]) q174_49 rfl rfl (nI_1 (4)) rfl ?_
  refine a_goto (tgt := 12) q174_52 (by decide) ?_
  refine a_iload_n (i := 3) q174_12 rfl rfl ?_
  refine a_iload_n (i := 2) q174_13 rfl rfl ?_
  refine a_icmp_ge (tgt := 55) q174_14 (by decide) (fun zc14_9 => ?_) (fun zc14_9 => absurd (by decide) zc14_9)
  refine a_iinc (v := nI (5 + 1)) (lv' := [(0, _), (1, _), (2, _), (3, _)]) q174_55 rfl rfl (nI_1 (5)) rfl ?_
  refine a_goto (tgt := 4) q174_58 (by decide) ?_
  refine a_iload_n (i := 2) q174_4 rfl rfl ?_
  refine a_bipush (v := 6) q174_5 (by decide) ?_
  refine a_icmp_ge (tgt := 61) q174_7 (by decide) (fun zc7_4 => ?_) (fun zc7_4 => absurd (by decide) zc7_4)
  refine a_iload_n (i := 1) q174_61 rfl rfl ?_
  refine a_ireturn q174_62 (nr_bool rfl b2i_01) ?_
  exact hq
