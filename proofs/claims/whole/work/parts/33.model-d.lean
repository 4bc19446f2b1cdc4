/-! the model's ranking -/
abbrev MT := Nat × (Nat → Int32) × (Nat → Int32)
def m_pos (C : Nat → Int32) (c : Int32) : Nat → Nat
  | 0 => 0
  | j + 1 => if C j ≤ c then j + 1 else m_pos C c j
theorem m_pos_le (C : Nat → Int32) (c : Int32) : ∀ j, m_pos C c j ≤ j
  | 0 => Nat.le_refl 0
  | j + 1 => by
    rw [m_pos]; split
    · exact Nat.le_refl _
    · exact Nat.le_succ_of_le (m_pos_le C c j)
def shC (a : Nat) : Nat → (Nat → Int32) → Nat → Int32
  | 0, C => C
  | d + 1, C => shC a d (upd C (a + d + 1) (C (a + d)))
def cpy (R : Nat → Int32) (k l : Nat) : Nat → Nat → Int32
  | 0 => R
  | j + 1 => upd (cpy R k l j) (6 * k + j) (cpy R k l j (6 * l + j))
def shR (a : Nat) : Nat → (Nat → Int32) → Nat → Int32
  | 0, R => R
  | d + 1, R => shR a d (cpy R (a + d + 1) (a + d) 6)
def stc (R : Nat → Int32) (k : Nat) (f : Nat → Int32) : Nat → Nat → Int32
  | 0 => R
  | j + 1 => upd (stc R k f j) (6 * k + j) (f j)
def kpR (k : Nat) : Nat := if k < 5 then k + 1 else k
def mn4 (k : Nat) : Nat := if k < 4 then k else 4
def m_lay (c : Int32) (f : Nat → Int32) (b : MT) : MT := if m_pos b.2.1 c b.1 < 5 then (kpR b.1, upd (shC (m_pos b.2.1 c b.1) (mn4 b.1 - m_pos b.2.1 c b.1) b.2.1) (m_pos b.2.1 c b.1) c, stc (shR (m_pos b.2.1 c b.1) (mn4 b.1 - m_pos b.2.1 c b.1) b.2.2) (m_pos b.2.1 c b.1) f 6) else b
theorem m_lay_le {c : Int32} {f : Nat → Int32} {b : MT} (h : b.1 ≤ 5) : (m_lay c f b).1 ≤ 5 := by
  unfold m_lay; split
  · show kpR b.1 ≤ 5
    unfold kpR; split <;> omega
  · exact h
theorem AW.rg {X : XS} {mi pc i : Nat} {lv : List (Nat × Value)} {st : List Value} {h : AH} {bc bs : Nat} {Q : AO → AH → Prop} {lv' : List (Nat × Value)} (e : lv = lv') (k : AW X mi pc lv' st h bc bs Q) : AW X mi pc lv st h bc bs Q := e ▸ k
theorem l_lpos (m : Nat) : ∀ {X : XS} {I : Nat → Int32} {A : Nat → Nat → Int32} {L : Nat → Nat → Int64} {O : Nat → UInt64} {Q : AO → AH → Prop} {c : Int32} (hm : m ≤ 5) (hk : AW X 171 46 [(0, .ref 21), (1, .int c), (2, .int (nI (m_pos (A 33) c m)))] [] (hp I A L O) 0 0 Q), AW X 171 24 [(0, .ref 21), (1, .int c), (2, .int (nI m))] [] (hp I A L O) 0 0 Q := by
  induction m with
  | zero =>
    intro X I A L O Q c hm hk
    refine a_iload_n (i := 2) q171_24 rfl rfl ?_
    refine a_if_le (tgt := 46) q171_25 (by decide) (fun zc25 => ?_) (fun zc25 => absurd (by decide) zc25)
    exact hk
  | succ m ih =>
    intro X I A L O Q c hm hk
    refine a_iload_n (i := 2) q171_24 rfl rfl ?_
    refine a_if_le (tgt := 46) q171_25 (by decide) (fun zc25 => absurd zc25 (nI_nle (Nat.succ_pos m) (by omega))) (fun zc25 => ?_)
    refine a_aload_n (i := 0) q171_28 rfl rfl ?_
    refine a_getfield q171_29 rfl rfl ?_
    refine a_iload_n (i := 2) q171_32 rfl rfl ?_
    refine a_iconst (v := 1) q171_33 (by decide) ?_
    refine a_isub q171_34 ?_
    refine AW.ti (nI_pred m) ?_
    refine a_iald' (j := m) q171_35 rfl rfl (by omega) (by decide) ?_
    refine a_iload_n (i := 1) q171_36 rfl rfl ?_
    refine a_icmp_le (tgt := 46) q171_37 (by decide) (fun zc37 => ?_) (fun zc37 => ?_)
    · skip
      rw [show m_pos (A 33) c (m + 1) = m + 1 from if_pos zc37] at hk
      exact hk
    · skip
      refine a_iinc (v := nI (m)) (lv' := [(0, _), (1, _), (2, _)]) q171_40 rfl rfl (pk_m1 m) rfl ?_
      refine a_goto (tgt := 24) q171_43 (by decide) ?_
      rw [show m_pos (A 33) c (m + 1) = m_pos (A 33) c m from if_neg zc37] at hk
      exact ih (by omega) hk

theorem nI_nle2 {a b : Nat} (h : a < b) (hb : b < 2 ^ 31) : ¬ nI b ≤ nI a := nI_ge h hb
theorem rk_next {k : Nat} (h : k ≤ 5) : nI k + b2i (nI k < 5) = nI (kpR k) := by
  by_cases zk : k < 5
  · rw [b2i_t (p := nI k < 5) (nI_lt (b := 5) zk (by decide)), show kpR k = k + 1 from if_pos zk]; exact nI_1 k
  · rw [b2i_f (p := nI k < 5) (fun zz => zk ((nI_ltI (b := 5) (by omega) (by decide)).mp zz)), show kpR k = k from if_neg zk]; exact Int32.add_zero _
theorem mn4_I {k : Nat} (h : k ≤ 5) (h4 : nI k < 4) : nI k = nI (mn4 k) := by
  rw [show mn4 k = k from if_pos ((nI_ltI (b := 4) (by omega) (by decide)).mp h4)]
theorem mn4_J {k : Nat} (h : k ≤ 5) (h4 : 4 ≤ nI k) : (4 : Int32) = nI (mn4 k) := by
  rw [show mn4 k = 4 from if_neg (fun zz => absurd (nI_lt (b := 4) zz (by decide)) (i_nlt.mpr h4))]; rfl
theorem mn4_ge {k a : Nat} (h : a ≤ k) (h5 : a < 5) : a ≤ mn4 k := by unfold mn4; split <;> omega
theorem mn4_le (k : Nat) : mn4 k ≤ 4 := by unfold mn4; split <;> omega
theorem l_lsh (m : Nat) : ∀ {X : XS} {I : Nat → Int32} {A : Nat → Nat → Int32} {L : Nat → Nat → Int64} {O : Nat → UInt64} {Q : AO → AH → Prop} {a : Nat} {c : Int32} (hm : a + m ≤ 4) (hk : AW X 171 135 [(0, .ref 21), (1, .int c), (2, .int (nI a))] [] (hp I (va_up (va_up A 33 (shC a m (A 33))) 32 (shR a m (A 32))) L O) 0 0 Q), AW X 171 68 [(0, .ref 21), (1, .int c), (2, .int (nI a)), (3, .int (nI (a + m)))] [] (hp I A L O) 0 0 Q := by
  induction m with
  | zero =>
    intro X I A L O Q a c hm hk
    refine a_iload_n (i := 3) q171_68 rfl rfl ?_
    refine a_iload_n (i := 2) q171_69 rfl rfl ?_
    refine a_icmp_le (tgt := 135) q171_70 (by decide) (fun zc70 => ?_) (fun zc70 => absurd (nI_le (show a + 0 ≤ a by omega) (by omega)) zc70)
    refine AW.pop_less (x := (3, _)) (lv' := [(0, _), (1, _), (2, _)]) ?_
    exact AW.hp rfl hk
  | succ m ih =>
    intro X I A L O Q a c hm hk
    refine a_iload_n (i := 3) q171_68 rfl rfl ?_
    refine a_iload_n (i := 2) q171_69 rfl rfl ?_
    refine a_icmp_le (tgt := 135) q171_70 (by decide) (fun zc70 => absurd zc70 (nI_nle2 (show a < a + (m + 1) by omega) (by omega))) (fun zc70 => ?_)
    refine a_aload_n (i := 0) q171_73 rfl rfl ?_
    refine a_getfield q171_74 rfl rfl ?_
    refine a_iload_n (i := 3) q171_77 rfl rfl ?_
    refine a_aload_n (i := 0) q171_78 rfl rfl ?_
    refine a_getfield q171_79 rfl rfl ?_
    refine a_iload_n (i := 3) q171_82 rfl rfl ?_
    refine a_iconst (v := 1) q171_83 (by decide) ?_
    refine a_isub q171_84 ?_
    refine AW.ti (nI_pred (a + m)) ?_
    refine a_iald' (j := a + m) q171_85 rfl rfl (by omega) (by decide) ?_
    refine a_iast' (j := a + m + 1) q171_86 rfl rfl (by omega) (by decide) (h' := hp I (va_up (va_up A 33 (upd (A 33) (a + m + 1) (A 33 (a + m)))) 32 (cpy (A 32) (a + m + 1) (a + m) 0)) L O) rfl ?_
    refine a_iconst (v := 0) q171_87 (by decide) ?_
    refine a_istore (i := 4) (lv' := [(0, _), (1, _), (2, _), (3, _), (4, _)]) q171_88 rfl rfl ?_
    refine a_iload q171_90 rfl ?_
    refine a_bipush (v := 6) q171_92 (by decide) ?_
    refine a_icmp_ge (tgt := 129) q171_94 (by decide) (fun zc94 => absurd zc94 (by decide)) (fun zc94 => ?_)
    refine a_aload_n (i := 0) q171_97 rfl rfl ?_
    refine a_getfield q171_98 rfl rfl ?_
    refine a_bipush (v := 6) q171_101 (by decide) ?_
    refine a_iload_n (i := 3) q171_103 rfl rfl ?_
    refine a_imul q171_104 ?_
    refine a_iload q171_105 rfl ?_
    refine a_iadd q171_107 ?_
    refine a_aload_n (i := 0) q171_108 rfl rfl ?_
    refine a_getfield q171_109 rfl rfl ?_
    refine a_bipush (v := 6) q171_112 (by decide) ?_
    refine a_iload_n (i := 3) q171_114 rfl rfl ?_
    refine a_iconst (v := 1) q171_115 (by decide) ?_
    refine a_isub q171_116 ?_
    refine AW.ti (nI_pred (a + m)) ?_
    refine a_imul q171_117 ?_
    refine a_iload q171_118 rfl ?_
    refine a_iadd q171_120 ?_
    refine a_iald' (j := 6 * (a + m) + 0) q171_121 rfl (nI_ix6 (a + m) 0) (by omega) (by decide) ?_
    refine a_iast' (j := 6 * (a + m + 1) + 0) q171_122 rfl (nI_ix6 (a + m + 1) 0) (by omega) (by decide) (h' := hp I (va_up (va_up A 33 (upd (A 33) (a + m + 1) (A 33 (a + m)))) 32 (cpy (A 32) (a + m + 1) (a + m) 1)) L O) rfl ?_
    refine a_iinc (v := nI (0 + 1)) (lv' := [(0, _), (1, _), (2, _), (3, _), (4, _)]) q171_123 rfl rfl (nI_1 (0)) rfl ?_
    refine a_goto (tgt := 90) q171_126 (by decide) ?_
    refine a_iload q171_90 rfl ?_
    refine a_bipush (v := 6) q171_92 (by decide) ?_
    refine a_icmp_ge (tgt := 129) q171_94 (by decide) (fun zc94_1 => absurd zc94_1 (by decide)) (fun zc94_1 => ?_)
    refine a_aload_n (i := 0) q171_97 rfl rfl ?_
    refine a_getfield q171_98 rfl rfl ?_
    refine a_bipush (v := 6) q171_101 (by decide) ?_
    refine a_iload_n (i := 3) q171_103 rfl rfl ?_
    refine a_imul q171_104 ?_
    refine a_iload q171_105 rfl ?_
    refine a_iadd q171_107 ?_
    refine a_aload_n (i := 0) q171_108 rfl rfl ?_
    refine a_getfield q171_109 rfl rfl ?_
    refine a_bipush (v := 6) q171_112 (by decide) ?_
    refine a_iload_n (i := 3) q171_114 rfl rfl ?_
    refine a_iconst (v := 1) q171_115 (by decide) ?_
    refine a_isub q171_116 ?_
    refine AW.ti (nI_pred (a + m)) ?_
    refine a_imul q171_117 ?_
    refine a_iload q171_118 rfl ?_
    refine a_iadd q171_120 ?_
    refine a_iald' (j := 6 * (a + m) + 1) q171_121 rfl (nI_ix6 (a + m) 1) (by omega) (by decide) ?_
    refine a_iast' (j := 6 * (a + m + 1) + 1) q171_122 rfl (nI_ix6 (a + m + 1) 1) (by omega) (by decide) (h' := hp I (va_up (va_up A 33 (upd (A 33) (a + m + 1) (A 33 (a + m)))) 32 (cpy (A 32) (a + m + 1) (a + m) 2)) L O) rfl ?_
    refine a_iinc (v := nI (1 + 1)) (lv' := [(0, _), (1, _), (2, _), (3, _), (4, _)]) q171_123 rfl rfl (nI_1 (1)) rfl ?_
    refine a_goto (tgt := 90) q171_126 (by decide) ?_
    refine a_iload q171_90 rfl ?_
    refine a_bipush (v := 6) q171_92 (by decide) ?_
    refine a_icmp_ge (tgt := 129) q171_94 (by decide) (fun zc94_2 => absurd zc94_2 (by decide)) (fun zc94_2 => ?_)
    refine a_aload_n (i := 0) q171_97 rfl rfl ?_
    refine a_getfield q171_98 rfl rfl ?_
    refine a_bipush (v := 6) q171_101 (by decide) ?_
    refine a_iload_n (i := 3) q171_103 rfl rfl ?_
    refine a_imul q171_104 ?_
    refine a_iload q171_105 rfl ?_
    refine a_iadd q171_107 ?_
    refine a_aload_n (i := 0) q171_108 rfl rfl ?_
    refine a_getfield q171_109 rfl rfl ?_
    refine a_bipush (v := 6) q171_112 (by decide) ?_
    refine a_iload_n (i := 3) q171_114 rfl rfl ?_
    refine a_iconst (v := 1) q171_115 (by decide) ?_
    refine a_isub q171_116 ?_
    refine AW.ti (nI_pred (a + m)) ?_
    refine a_imul q171_117 ?_
    refine a_iload q171_118 rfl ?_
    refine a_iadd q171_120 ?_
    refine a_iald' (j := 6 * (a + m) + 2) q171_121 rfl (nI_ix6 (a + m) 2) (by omega) (by decide) ?_
    refine a_iast' (j := 6 * (a + m + 1) + 2) q171_122 rfl (nI_ix6 (a + m + 1) 2) (by omega) (by decide) (h' := hp I (va_up (va_up A 33 (upd (A 33) (a + m + 1) (A 33 (a + m)))) 32 (cpy (A 32) (a + m + 1) (a + m) 3)) L O) rfl ?_
    refine a_iinc (v := nI (2 + 1)) (lv' := [(0, _), (1, _), (2, _), (3, _), (4, _)]) q171_123 rfl rfl (nI_1 (2)) rfl ?_
    refine a_goto (tgt := 90) q171_126 (by decide) ?_
    refine a_iload q171_90 rfl ?_
    refine a_bipush (v := 6) q171_92 (by decide) ?_
    refine a_icmp_ge (tgt := 129) q171_94 (by decide) (fun zc94_3 => absurd zc94_3 (by decide)) (fun zc94_3 => ?_)
    refine a_aload_n (i := 0) q171_97 rfl rfl ?_
    refine a_getfield q171_98 rfl rfl ?_
    refine a_bipush (v := 6) q171_101 (by decide) ?_
    refine a_iload_n (i := 3) q171_103 rfl rfl ?_
    refine a_imul q171_104 ?_
    refine a_iload q171_105 rfl ?_
    refine a_iadd q171_107 ?_
    refine a_aload_n (i := 0) q171_108 rfl rfl ?_
    refine a_getfield q171_109 rfl rfl ?_
    refine a_bipush (v := 6) q171_112 (by decide) ?_
    refine a_iload_n (i := 3) q171_114 rfl rfl ?_
    refine a_iconst (v := 1) q171_115 (by decide) ?_
    refine a_isub q171_116 ?_
    refine AW.ti (nI_pred (a + m)) ?_
    refine a_imul q171_117 ?_
    refine a_iload q171_118 rfl ?_
    refine a_iadd q171_120 ?_
    refine a_iald' (j := 6 * (a + m) + 3) q171_121 rfl (nI_ix6 (a + m) 3) (by omega) (by decide) ?_
    refine a_iast' (j := 6 * (a + m + 1) + 3) q171_122 rfl (nI_ix6 (a + m + 1) 3) (by omega) (by decide) (h' := hp I (va_up (va_up A 33 (upd (A 33) (a + m + 1) (A 33 (a + m)))) 32 (cpy (A 32) (a + m + 1) (a + m) 4)) L O) rfl ?_
    refine a_iinc (v := nI (3 + 1)) (lv' := [(0, _), (1, _), (2, _), (3, _), (4, _)]) q171_123 rfl rfl (nI_1 (3)) rfl ?_
    refine a_goto (tgt := 90) q171_126 (by decide) ?_
    refine a_iload q171_90 rfl ?_
    refine a_bipush (v := 6) q171_92 (by decide) ?_
    refine a_icmp_ge (tgt := 129) q171_94 (by decide) (fun zc94_4 => absurd zc94_4 (by decide)) (fun zc94_4 => ?_)
    refine a_aload_n (i := 0) q171_97 rfl rfl ?_
    refine a_getfield q171_98 rfl rfl ?_
    refine a_bipush (v := 6) q171_101 (by decide) ?_
    refine a_iload_n (i := 3) q171_103 rfl rfl ?_
    refine a_imul q171_104 ?_
    refine a_iload q171_105 rfl ?_
    refine a_iadd q171_107 ?_
    refine a_aload_n (i := 0) q171_108 rfl rfl ?_
    refine a_getfield q171_109 rfl rfl ?_
    refine a_bipush (v := 6) q171_112 (by decide) ?_
    refine a_iload_n (i := 3) q171_114 rfl rfl ?_
    refine a_iconst (v := 1) q171_115 (by decide) ?_
    refine a_isub q171_116 ?_
    refine AW.ti (nI_pred (a + m)) ?_
    refine a_imul q171_117 ?_
    refine a_iload q171_118 rfl ?_
    refine a_iadd q171_120 ?_
    refine a_iald' (j := 6 * (a + m) + 4) q171_121 rfl (nI_ix6 (a + m) 4) (by omega) (by decide) ?_
    refine a_iast' (j := 6 * (a + m + 1) + 4) q171_122 rfl (nI_ix6 (a + m + 1) 4) (by omega) (by decide) (h' := hp I (va_up (va_up A 33 (upd (A 33) (a + m + 1) (A 33 (a + m)))) 32 (cpy (A 32) (a + m + 1) (a + m) 5)) L O) rfl ?_
    refine a_iinc (v := nI (4 + 1)) (lv' := [(0, _), (1, _), (2, _), (3, _), (4, _)]) q171_123 rfl rfl (nI_1 (4)) rfl ?_
    refine a_goto (tgt := 90) q171_126 (by decide) ?_
    refine a_iload q171_90 rfl ?_
    refine a_bipush (v := 6) q171_92 (by decide) ?_
    refine a_icmp_ge (tgt := 129) q171_94 (by decide) (fun zc94_5 => absurd zc94_5 (by decide)) (fun zc94_5 => ?_)
    refine a_aload_n (i := 0) q171_97 rfl rfl ?_
    refine a_getfield q171_98 rfl rfl ?_
    refine a_bipush (v := 6) q171_101 (by decide) ?_
    refine a_iload_n (i := 3) q171_103 rfl rfl ?_
    refine a_imul q171_104 ?_
    refine a_iload q171_105 rfl ?_
    refine a_iadd q171_107 ?_
    refine a_aload_n (i := 0) q171_108 rfl rfl ?_
    refine a_getfield q171_109 rfl rfl ?_
    refine a_bipush (v := 6) q171_112 (by decide) ?_
    refine a_iload_n (i := 3) q171_114 rfl rfl ?_
    refine a_iconst (v := 1) q171_115 (by decide) ?_
    refine a_isub q171_116 ?_
    refine AW.ti (nI_pred (a + m)) ?_
    refine a_imul q171_117 ?_
    refine a_iload q171_118 rfl ?_
    refine a_iadd q171_120 ?_
    refine a_iald' (j := 6 * (a + m) + 5) q171_121 rfl (nI_ix6 (a + m) 5) (by omega) (by decide) ?_
    refine a_iast' (j := 6 * (a + m + 1) + 5) q171_122 rfl (nI_ix6 (a + m + 1) 5) (by omega) (by decide) (h' := hp I (va_up (va_up A 33 (upd (A 33) (a + m + 1) (A 33 (a + m)))) 32 (cpy (A 32) (a + m + 1) (a + m) 6)) L O) rfl ?_
    refine a_iinc (v := nI (5 + 1)) (lv' := [(0, _), (1, _), (2, _), (3, _), (4, _)]) q171_123 rfl rfl (nI_1 (5)) rfl ?_
    refine a_goto (tgt := 90) q171_126 (by decide) ?_
    refine a_iload q171_90 rfl ?_
    refine a_bipush (v := 6) q171_92 (by decide) ?_
    refine a_icmp_ge (tgt := 129) q171_94 (by decide) (fun zc94_6 => ?_) (fun zc94_6 => absurd (by decide) zc94_6)
    refine a_iinc (v := nI (a + m)) (lv' := [(0, _), (1, _), (2, _), (3, _), (4, _)]) q171_129 rfl rfl (pk_m1 (a + m)) rfl ?_
    refine a_goto (tgt := 68) q171_132 (by decide) ?_
    refine AW.pop_less (x := (4, _)) (lv' := [(0, _), (1, _), (2, _), (3, _)]) ?_
    exact ih (by omega) (AW.hp rfl hk)

theorem c_X10_lays {X : XS} {I : Nat → Int32} {A : Nat → Nat → Int32} {L : Nat → Nat → Int64} {O : Nat → UInt64} {Q : AO → AH → Prop} {k : Nat} {c : Int32} (hv : vch (A 29)) {n : Nat} (hn : I 20 = nI n) (hn40 : n ≤ 40) (hk : I 22 = nI k) (hk5 : k ≤ 5) (hc : m_cost n A (A 29) = c) (hq : Q (.inl none) (hp (va_up (va_up I 24 (I 24 + 1)) 22 (nI (m_lay c (A 29) (k, A 33, A 32)).1)) (va_up (va_up A 33 (m_lay c (A 29) (k, A 33, A 32)).2.1) 32 (m_lay c (A 29) (k, A 33, A 32)).2.2) L O)) : Call X 171 [.ref 21] (hp I A L O) Q := by
  refine call_of (by decide) rfl rfl ?_
  refine a_aload_n (i := 0) q171_0 rfl rfl ?_
  refine a_aload_n (i := 0) q171_1 rfl rfl ?_
  refine a_getfield q171_2 rfl rfl ?_
  refine a_cv1 q171_5 rfl rfl ⟨rfl, rfl⟩ rfl ?_
  refine c_X10_costOf (o := 29) (Or.inl rfl) hv hn hn40 ?_
  refine ck_r ?_
  refine AW.ti hc ?_
  refine a_istore_n (i := 1) (lv' := [(0, _), (1, _)]) q171_8 rfl rfl rfl ?_
  refine a_aload_n (i := 0) q171_9 rfl rfl ?_
  refine a_dup q171_10 rfl ?_
  refine a_getfield q171_11 rfl rfl ?_
  refine a_iconst (v := 1) q171_14 (by decide) ?_
  refine a_iadd q171_15 ?_
  refine a_putfield q171_16 rfl rfl rfl rfl ?_
  refine AW.hp (h' := hp (va_up I 24 (I 24 + 1)) A L O) rfl ?_
  refine a_aload_n (i := 0) q171_19 rfl rfl ?_
  refine a_getfield q171_20 rfl rfl ?_
  refine AW.ti hk ?_
  refine a_istore_n (i := 2) (lv' := [(0, _), (1, _), (2, _)]) q171_23 rfl rfl rfl ?_
  refine l_lpos k hk5 ?_
  refine a_iload_n (i := 2) q171_46 rfl rfl ?_
  refine a_iconst (v := 5) q171_47 (by decide) ?_
  refine a_icmp_ge (tgt := 195) q171_48 (by decide) (fun zc48 => ?_) (fun zc48 => ?_)
  · skip
    refine a_return q171_195 rfl ?_
    have ze : (m_lay c (A 29) (k, A 33, A 32)) = (k, A 33, A 32) := if_neg (fun zz => absurd zc48 (nI_nle2 zz (by decide)))
    rw [ze] at hq
    refine lfh hq ?_
    show hp (va_up (va_up I 24 (I 24 + 1)) 22 (nI k)) (va_up (va_up A 33 (A 33)) 32 (A 32)) L O = _
    rw [va_self, va_self, show va_up (va_up I 24 (I 24 + 1)) 22 (nI k) = va_up I 24 (I 24 + 1) from by rw [← hk]; exact va_self (va_up I 24 (I 24 + 1)) 22]
  · skip
    refine AW.cut 67 (nI (mn4 k)) (fun zk67 => ?_) ?_
    · skip
      refine a_aload_n (i := 0) q171_51 rfl rfl ?_
      refine a_getfield q171_52 rfl rfl ?_
      refine a_iconst (v := 4) q171_55 (by decide) ?_
      refine a_icmp_ge (tgt := 66) q171_56 (by decide) (fun zc56 => ?_) (fun zc56 => ?_)
      · skip
        refine a_iconst (v := 4) q171_66 (by decide) ?_
        exact cutv zk67 ((mn4_J hk5 (by rw [← hk]; exact zc56)).symm)
      · skip
        refine a_aload_n (i := 0) q171_59 rfl rfl ?_
        refine a_getfield q171_60 rfl rfl ?_
        refine a_goto (tgt := 67) q171_63 (by decide) ?_
        exact cutv zk67 ((mn4_I hk5 (by rw [← hk]; exact i_nle.mp zc56)).symm.trans hk.symm)
    refine a_istore_n (i := 3) (lv' := [(0, _), (1, _), (2, _), (3, _)]) q171_67 rfl rfl rfl ?_
    have zle := m_pos_le (A 33) c k
    have zlt : (m_pos (A 33) c k) < 5 := Nat.lt_of_not_le (fun zz => zc48 (nI_le (a := 5) zz (by omega)))
    have zmn := mn4_ge zle zlt
    have zm4 := mn4_le k
    refine AW.lv (lv' := [(0, .ref 21), (1, .int c), (2, .int (nI (m_pos (A 33) c k))), (3, .int (nI ((m_pos (A 33) c k) + (mn4 k - (m_pos (A 33) c k)))))]) (by rw [Nat.add_sub_cancel' zmn]) ?_
    refine l_lsh (mn4 k - (m_pos (A 33) c k)) (by omega) ?_
    refine AW.hp (h' := hp (va_up I 24 (I 24 + 1)) (va_up (va_up A 33 (shC (m_pos (A 33) c k) (mn4 k - (m_pos (A 33) c k)) (A 33))) 32 (shR (m_pos (A 33) c k) (mn4 k - (m_pos (A 33) c k)) (A 32))) L O) rfl ?_
    refine a_aload_n (i := 0) q171_135 rfl rfl ?_
    refine a_getfield q171_136 rfl rfl ?_
    refine a_iload_n (i := 2) q171_139 rfl rfl ?_
    refine a_iload_n (i := 1) q171_140 rfl rfl ?_
    refine a_iast' (j := (m_pos (A 33) c k)) q171_141 rfl rfl (by omega) (by decide) (h' := hp (va_up I 24 (I 24 + 1)) (va_up (va_up A 33 (upd (shC (m_pos (A 33) c k) (mn4 k - (m_pos (A 33) c k)) (A 33)) (m_pos (A 33) c k) c)) 32 (stc (shR (m_pos (A 33) c k) (mn4 k - (m_pos (A 33) c k)) (A 32)) (m_pos (A 33) c k) (A 29) 0)) L O) rfl ?_
    refine a_iconst (v := 0) q171_142 (by decide) ?_
    refine a_istore_n (i := 3) (lv' := [(0, _), (1, _), (2, _), (3, _)]) q171_143 rfl rfl rfl ?_
    refine a_iload_n (i := 3) q171_144 rfl rfl ?_
    refine a_bipush (v := 6) q171_145 (by decide) ?_
    refine a_icmp_ge (tgt := 173) q171_147 (by decide) (fun zc147 => absurd zc147 (by decide)) (fun zc147 => ?_)
    refine a_aload_n (i := 0) q171_150 rfl rfl ?_
    refine a_getfield q171_151 rfl rfl ?_
    refine a_bipush (v := 6) q171_154 (by decide) ?_
    refine a_iload_n (i := 2) q171_156 rfl rfl ?_
    refine a_imul q171_157 ?_
    refine a_iload_n (i := 3) q171_158 rfl rfl ?_
    refine a_iadd q171_159 ?_
    refine a_aload_n (i := 0) q171_160 rfl rfl ?_
    refine a_getfield q171_161 rfl rfl ?_
    refine a_iload_n (i := 3) q171_164 rfl rfl ?_
    refine a_iald' (j := 0) q171_165 rfl rfl (by decide) (by decide) ?_
    refine a_iast' (j := 6 * (m_pos (A 33) c k) + 0) q171_166 rfl (nI_ix6 (m_pos (A 33) c k) 0) (by omega) (by decide) (h' := hp (va_up I 24 (I 24 + 1)) (va_up (va_up A 33 (upd (shC (m_pos (A 33) c k) (mn4 k - (m_pos (A 33) c k)) (A 33)) (m_pos (A 33) c k) c)) 32 (stc (shR (m_pos (A 33) c k) (mn4 k - (m_pos (A 33) c k)) (A 32)) (m_pos (A 33) c k) (A 29) 1)) L O) rfl ?_
    refine a_iinc (v := nI (0 + 1)) (lv' := [(0, _), (1, _), (2, _), (3, _)]) q171_167 rfl rfl (nI_1 (0)) rfl ?_
    refine a_goto (tgt := 144) q171_170 (by decide) ?_
    refine a_iload_n (i := 3) q171_144 rfl rfl ?_
    refine a_bipush (v := 6) q171_145 (by decide) ?_
    refine a_icmp_ge (tgt := 173) q171_147 (by decide) (fun zc147_1 => absurd zc147_1 (by decide)) (fun zc147_1 => ?_)
    refine a_aload_n (i := 0) q171_150 rfl rfl ?_
    refine a_getfield q171_151 rfl rfl ?_
    refine a_bipush (v := 6) q171_154 (by decide) ?_
    refine a_iload_n (i := 2) q171_156 rfl rfl ?_
    refine a_imul q171_157 ?_
    refine a_iload_n (i := 3) q171_158 rfl rfl ?_
    refine a_iadd q171_159 ?_
    refine a_aload_n (i := 0) q171_160 rfl rfl ?_
    refine a_getfield q171_161 rfl rfl ?_
    refine a_iload_n (i := 3) q171_164 rfl rfl ?_
    refine a_iald' (j := 1) q171_165 rfl rfl (by decide) (by decide) ?_
    refine a_iast' (j := 6 * (m_pos (A 33) c k) + 1) q171_166 rfl (nI_ix6 (m_pos (A 33) c k) 1) (by omega) (by decide) (h' := hp (va_up I 24 (I 24 + 1)) (va_up (va_up A 33 (upd (shC (m_pos (A 33) c k) (mn4 k - (m_pos (A 33) c k)) (A 33)) (m_pos (A 33) c k) c)) 32 (stc (shR (m_pos (A 33) c k) (mn4 k - (m_pos (A 33) c k)) (A 32)) (m_pos (A 33) c k) (A 29) 2)) L O) rfl ?_
    refine a_iinc (v := nI (1 + 1)) (lv' := [(0, _), (1, _), (2, _), (3, _)]) q171_167 rfl rfl (nI_1 (1)) rfl ?_
    refine a_goto (tgt := 144) q171_170 (by decide) ?_
    refine a_iload_n (i := 3) q171_144 rfl rfl ?_
    refine a_bipush (v := 6) q171_145 (by decide) ?_
    refine a_icmp_ge (tgt := 173) q171_147 (by decide) (fun zc147_2 => absurd zc147_2 (by decide)) (fun zc147_2 => ?_)
    refine a_aload_n (i := 0) q171_150 rfl rfl ?_
    refine a_getfield q171_151 rfl rfl ?_
    refine a_bipush (v := 6) q171_154 (by decide) ?_
    refine a_iload_n (i := 2) q171_156 rfl rfl ?_
    refine a_imul q171_157 ?_
    refine a_iload_n (i := 3) q171_158 rfl rfl ?_
    refine a_iadd q171_159 ?_
    refine a_aload_n (i := 0) q171_160 rfl rfl ?_
    refine a_getfield q171_161 rfl rfl ?_
    refine a_iload_n (i := 3) q171_164 rfl rfl ?_
    refine a_iald' (j := 2) q171_165 rfl rfl (by decide) (by decide) ?_
    refine a_iast' (j := 6 * (m_pos (A 33) c k) + 2) q171_166 rfl (nI_ix6 (m_pos (A 33) c k) 2) (by omega) (by decide) (h' := hp (va_up I 24 (I 24 + 1)) (va_up (va_up A 33 (upd (shC (m_pos (A 33) c k) (mn4 k - (m_pos (A 33) c k)) (A 33)) (m_pos (A 33) c k) c)) 32 (stc (shR (m_pos (A 33) c k) (mn4 k - (m_pos (A 33) c k)) (A 32)) (m_pos (A 33) c k) (A 29) 3)) L O) rfl ?_
    refine a_iinc (v := nI (2 + 1)) (lv' := [(0, _), (1, _), (2, _), (3, _)]) q171_167 rfl rfl (nI_1 (2)) rfl ?_
    refine a_goto (tgt := 144) q171_170 (by decide) ?_
    refine a_iload_n (i := 3) q171_144 rfl rfl ?_
    refine a_bipush (v := 6) q171_145 (by decide) ?_
    refine a_icmp_ge (tgt := 173) q171_147 (by decide) (fun zc147_3 => absurd zc147_3 (by decide)) (fun zc147_3 => ?_)
    refine a_aload_n (i := 0) q171_150 rfl rfl ?_
    refine a_getfield q171_151 rfl rfl ?_
    refine a_bipush (v := 6) q171_154 (by decide) ?_
    refine a_iload_n (i := 2) q171_156 rfl rfl ?_
    refine a_imul q171_157 ?_
    refine a_iload_n (i := 3) q171_158 rfl rfl ?_
    refine a_iadd q171_159 ?_
    refine a_aload_n (i := 0) q171_160 rfl rfl ?_
    refine a_getfield q171_161 rfl rfl ?_
    refine a_iload_n (i := 3) q171_164 rfl rfl ?_
    refine a_iald' (j := 3) q171_165 rfl rfl (by decide) (by decide) ?_
    refine a_iast' (j := 6 * (m_pos (A 33) c k) + 3) q171_166 rfl (nI_ix6 (m_pos (A 33) c k) 3) (by omega) (by decide) (h' := hp (va_up I 24 (I 24 + 1)) (va_up (va_up A 33 (upd (shC (m_pos (A 33) c k) (mn4 k - (m_pos (A 33) c k)) (A 33)) (m_pos (A 33) c k) c)) 32 (stc (shR (m_pos (A 33) c k) (mn4 k - (m_pos (A 33) c k)) (A 32)) (m_pos (A 33) c k) (A 29) 4)) L O) rfl ?_
    refine a_iinc (v := nI (3 + 1)) (lv' := [(0, _), (1, _), (2, _), (3, _)]) q171_167 rfl rfl (nI_1 (3)) rfl ?_
    refine a_goto (tgt := 144) q171_170 (by decide) ?_
    refine a_iload_n (i := 3) q171_144 rfl rfl ?_
    refine a_bipush (v := 6) q171_145 (by decide) ?_
    refine a_icmp_ge (tgt := 173) q171_147 (by decide) (fun zc147_4 => absurd zc147_4 (by decide)) (fun zc147_4 => ?_)
    refine a_aload_n (i := 0) q171_150 rfl rfl ?_
    refine a_getfield q171_151 rfl rfl ?_
    refine a_bipush (v := 6) q171_154 (by decide) ?_
    refine a_iload_n (i := 2) q171_156 rfl rfl ?_
    refine a_imul q171_157 ?_
    refine a_iload_n (i := 3) q171_158 rfl rfl ?_
    refine a_iadd q171_159 ?_
    refine a_aload_n (i := 0) q171_160 rfl rfl ?_
    refine a_getfield q171_161 rfl rfl ?_
    refine a_iload_n (i := 3) q171_164 rfl rfl ?_
    refine a_iald' (j := 4) q171_165 rfl rfl (by decide) (by decide) ?_
    refine a_iast' (j := 6 * (m_pos (A 33) c k) + 4) q171_166 rfl (nI_ix6 (m_pos (A 33) c k) 4) (by omega) (by decide) (h' := hp (va_up I 24 (I 24 + 1)) (va_up (va_up A 33 (upd (shC (m_pos (A 33) c k) (mn4 k - (m_pos (A 33) c k)) (A 33)) (m_pos (A 33) c k) c)) 32 (stc (shR (m_pos (A 33) c k) (mn4 k - (m_pos (A 33) c k)) (A 32)) (m_pos (A 33) c k) (A 29) 5)) L O) rfl ?_
    refine a_iinc (v := nI (4 + 1)) (lv' := [(0, _), (1, _), (2, _), (3, _)]) q171_167 rfl rfl (nI_1 (4)) rfl ?_
    refine a_goto (tgt := 144) q171_170 (by decide) ?_
    refine a_iload_n (i := 3) q171_144 rfl rfl ?_
    refine a_bipush (v := 6) q171_145 (by decide) ?_
    refine a_icmp_ge (tgt := 173) q171_147 (by decide) (fun zc147_5 => absurd zc147_5 (by decide)) (fun zc147_5 => ?_)
    refine a_aload_n (i := 0) q171_150 rfl rfl ?_
    refine a_getfield q171_151 rfl rfl ?_
    refine a_bipush (v := 6) q171_154 (by decide) ?_
    refine a_iload_n (i := 2) q171_156 rfl rfl ?_
    refine a_imul q171_157 ?_
    refine a_iload_n (i := 3) q171_158 rfl rfl ?_
    refine a_iadd q171_159 ?_
    refine a_aload_n (i := 0) q171_160 rfl rfl ?_
    refine a_getfield q171_161 rfl rfl ?_
    refine a_iload_n (i := 3) q171_164 rfl rfl ?_
    refine a_iald' (j := 5) q171_165 rfl rfl (by decide) (by decide) ?_
    refine a_iast' (j := 6 * (m_pos (A 33) c k) + 5) q171_166 rfl (nI_ix6 (m_pos (A 33) c k) 5) (by omega) (by decide) (h' := hp (va_up I 24 (I 24 + 1)) (va_up (va_up A 33 (upd (shC (m_pos (A 33) c k) (mn4 k - (m_pos (A 33) c k)) (A 33)) (m_pos (A 33) c k) c)) 32 (stc (shR (m_pos (A 33) c k) (mn4 k - (m_pos (A 33) c k)) (A 32)) (m_pos (A 33) c k) (A 29) 6)) L O) rfl ?_
    refine a_iinc (v := nI (5 + 1)) (lv' := [(0, _), (1, _), (2, _), (3, _)]) q171_167 rfl rfl (nI_1 (5)) rfl ?_
    refine a_goto (tgt := 144) q171_170 (by decide) ?_
    refine a_iload_n (i := 3) q171_144 rfl rfl ?_
    refine a_bipush (v := 6) q171_145 (by decide) ?_
    refine a_icmp_ge (tgt := 173) q171_147 (by decide) (fun zc147_6 => ?_) (fun zc147_6 => absurd (by decide) zc147_6)
    refine a_aload_n (i := 0) q171_173 rfl rfl ?_
    refine a_dup q171_174 rfl ?_
    refine a_getfield q171_175 rfl rfl ?_
    refine AW.cut 191 (b2i (nI k < 5)) (fun zk191 => ?_) ?_
    · skip
      refine a_aload_n (i := 0) q171_178 rfl rfl ?_
      refine a_getfield q171_179 rfl rfl ?_
      refine a_iconst (v := 5) q171_182 (by decide) ?_
      refine a_icmp_ge (tgt := 190) q171_183 (by decide) (fun zc183 => ?_) (fun zc183 => ?_)
      · skip
        refine a_iconst (v := 0) q171_190 (by decide) ?_
        exact cutv zk191 (b2i_f (i_nlt.mpr (by rw [← hk]; exact zc183)))
      · skip
        refine a_iconst (v := 1) q171_186 (by decide) ?_
        refine a_goto (tgt := 191) q171_187 (by decide) ?_
        exact cutv zk191 (b2i_t (by rw [← hk]; exact i_nle.mp zc183))
    refine a_iadd q171_191 ?_
    refine AW.ti (show I 22 + b2i (nI k < 5) = nI (kpR k) by rw [hk]; exact rk_next hk5) ?_
    refine a_putfield q171_192 rfl rfl rfl rfl ?_
    refine a_return q171_195 rfl ?_
    have ze : (m_lay c (A 29) (k, A 33, A 32)) = (kpR k, (upd (shC (m_pos (A 33) c k) (mn4 k - (m_pos (A 33) c k)) (A 33)) (m_pos (A 33) c k) c), stc (shR (m_pos (A 33) c k) (mn4 k - (m_pos (A 33) c k)) (A 32)) (m_pos (A 33) c k) (A 29) 6) := if_pos zlt
    rw [ze] at hq
    exact lfh hq rfl

def dcd (f : Nat → Int32) (i : Nat) : Nat → Int32 := upd (upd (upd (upd (upd (upd f 5 (xI (i % 7))) 4 (xI (i / 7 % 7))) 3 (xI (i / 7 / 7 % 7))) 2 (xI (i / 7 / 7 / 7 % 7))) 1 (nI (i / 7 / 7 / 7 / 7 % 3))) 0 (nI (i / 7 / 7 / 7 / 7 / 3))
theorem xI_in {s : Nat} (h : s < 7) : -1 ≤ xI s ∧ xI s < 6 := by
  have : ∀ z, z < 7 → -1 ≤ xI z ∧ xI z < 6 := by decide +kernel
  exact this s h
theorem dcd_v (f : Nat → Int32) (i : Nat) : vch (dcd f i) := by
  intro k hk
  have h0 := xI_in (Nat.mod_lt i (by decide : 0 < 7))
  have h1 := xI_in (Nat.mod_lt (i / 7) (by decide : 0 < 7))
  have h2 := xI_in (Nat.mod_lt (i / 7 / 7) (by decide : 0 < 7))
  have h3 := xI_in (Nat.mod_lt (i / 7 / 7 / 7) (by decide : 0 < 7))
  match k, hk with
  | 0, _ => exact h3
  | 1, _ => exact h2
  | 2, _ => exact h1
  | 3, _ => exact h0
  | k + 4, hk => omega
abbrev MS := MT × Int32 × Int32 × Int32 × (Nat → Int32)
/-- one chart of the model's round -/
def mSt (w : Int32) (n : Nat) (A : Nat → Nat → Int32) (g : Nat → Int32) (cost : Int32) (i : Nat) (s : MS) : MS :=
  if m_dst (dcd s.2.2.2.2 i) ∧ m_fb w A (dcd s.2.2.2.2 i) = 0 then
    (m_lay (m_cost n A (dcd s.2.2.2.2 i)) (dcd s.2.2.2.2 i) s.1, s.2.1 + 1,
     s.2.2.1 + b2i (m_cost n A (dcd s.2.2.2.2 i) < cost ∨ (m_cost n A (dcd s.2.2.2.2 i) = cost ∧ ¬ (s.2.2.2.1 &&& b2i (¬ lkT (dcd s.2.2.2.2 i) g 6)) = 0)),
     s.2.2.2.1 &&& b2i (¬ lkT (dcd s.2.2.2.2 i) g 6), dcd s.2.2.2.2 i)
  else (s.1, s.2.1, s.2.2.1, s.2.2.2.1 &&& b2i (¬ lkT (dcd s.2.2.2.2 i) g 6), dcd s.2.2.2.2 i)
abbrev hpM (I : Nat → Int32) (A : Nat → Nat → Int32) (L : Nat → Nat → Int64) (O : Nat → UInt64) (s : MS) : AH :=
  hp (va_up (va_up (va_up I 22 (nI s.1.1)) 24 s.2.1) 25 s.2.2.1) (va_up (va_up (va_up A 29 s.2.2.2.2) 33 s.1.2.1) 32 s.1.2.2) L O
theorem m_of_c {A B : Nat → Nat → Int32} (h25 : B 25 = A 25) (f : Nat → Int32) (k : Nat) : m_of B f k = m_of A f k := by unfold m_of; rw [h25]
theorem m_gap_c {A B : Nat → Nat → Int32} (h22 : B 22 = A 22) (f : Nat → Int32) : ∀ n, m_gap B f n = m_gap A f n
  | 0 => rfl
  | n + 1 => by simp only [m_gap, m_gp, m_gk, h22, m_gap_c h22 f n]
theorem m_soft_c {A B : Nat → Nat → Int32} (h25 : B 25 = A 25) (h26 : B 26 = A 26) (w : Int32) (f : Nat → Int32) : m_soft w B f = m_soft w A f := by
  simp only [m_soft, m_of_c h25, h26]
theorem m_cost_c {A B : Nat → Nat → Int32} (h22 : B 22 = A 22) (h24 : B 24 = A 24) (h25 : B 25 = A 25) (h26 : B 26 = A 26) (n : Nat) (f : Nat → Int32) : m_cost n B f = m_cost n A f := by
  simp only [m_cost, m_base, m_of_c h25, m_gap_c h22, m_soft_c h25 h26, h24]
theorem m_fb_c {A B : Nat → Nat → Int32} (h25 : B 25 = A 25) (h27 : B 27 = A 27) (h28 : B 28 = A 28) (w : Int32) (f : Nat → Int32) : m_fb w B f = m_fb w A f := by
  simp only [m_fb, m_dead, m_dd, m_off, m_oo, m_b4, m_b5, m_grp, wshM, wshC, m_of_c h25, h27, h28]
theorem lays_hp {I : Nat → Int32} {A : Nat → Nat → Int32} {L : Nat → Nat → Int64} {O : Nat → UInt64} {k : Int32} {al al2 ah z : Int32} {f x y : Nat → Int32} {b : MT} : hpM I A L O (b, al2, ah, z, f) = hp (va_up (va_up (va_up (va_up (va_up I 22 k) 24 al) 25 ah) 24 al2) 22 (nI b.1)) (va_up (va_up (va_up (va_up (va_up A 29 f) 33 x) 32 y) 33 b.2.1) 32 b.2.2) L O := rfl
theorem c_X10_laysM {X : XS} {I : Nat → Int32} {A : Nat → Nat → Int32} {L : Nat → Nat → Int64} {O : Nat → UInt64} {Q : AO → AH → Prop} {n : Nat} {b : MT} {al ah z c : Int32} {f : Nat → Int32} (hv : vch f) (hn : I 20 = nI n) (hn40 : n ≤ 40) (hb : b.1 ≤ 5) (hc : m_cost n A f = c) (hq : Q (.inl none) (hpM I A L O (m_lay c f b, al + 1, ah, z, f))) : Call X 171 [.ref 21] (hpM I A L O (b, al, ah, z, f)) Q := by
  have hc2 : m_cost n (va_up (va_up (va_up A 29 f) 33 b.2.1) 32 b.2.2) f = c := (m_cost_c (A := A) (B := va_up (va_up (va_up A 29 f) 33 b.2.1) 32 b.2.2) rfl rfl rfl rfl n f).trans hc
  refine c_X10_lays (k := b.1) (c := c) hv hn hn40 rfl hb hc2 ?_
  show Q (.inl none) (hp (va_up (va_up (va_up (va_up (va_up I 22 (nI b.1)) 24 al) 25 ah) 24 (al + 1)) 22 (nI (m_lay c f b).1)) (va_up (va_up (va_up (va_up (va_up A 29 f) 33 b.2.1) 32 b.2.2) 33 (m_lay c f b).2.1) 32 (m_lay c f b).2.2) L O)
  exact lfh hq lays_hp
theorem c_X10_costM {X : XS} {I : Nat → Int32} {A : Nat → Nat → Int32} {L : Nat → Nat → Int64} {O : Nat → UInt64} {Q : AO → AH → Prop} {n : Nat} {b : MT} {al ah z : Int32} {f : Nat → Int32} (hv : vch f) (hn : I 20 = nI n) (hn40 : n ≤ 40) (hq : Q (.inl (some (.int (m_cost n A f)))) (hpM I A L O (b, al, ah, z, f))) : Call X 170 [.ref 21, .ref 29] (hpM I A L O (b, al, ah, z, f)) Q := by
  have hc2 : m_cost n (va_up (va_up (va_up A 29 f) 33 b.2.1) 32 b.2.2) f = m_cost n A f := m_cost_c (A := A) (B := va_up (va_up (va_up A 29 f) 33 b.2.1) 32 b.2.2) rfl rfl rfl rfl n f
  exact c_X10_costOf (o := 29) (Or.inl rfl) hv hn hn40 (lfi hq hc2)
theorem c_X10_brokenM {X : XS} {I : Nat → Int32} {A : Nat → Nat → Int32} {L : Nat → Nat → Int64} {O : Nat → UInt64} {Q : AO → AH → Prop} {b : MT} {al ah z w : Int32} {f : Nat → Int32} (hv : vch f) (hw : I 27 = w) (hq : Q (.inl (some (.int (m_fb w A f)))) (hpM I A L O (b, al, ah, z, f))) : Call X 167 [.ref 21, .ref 29] (hpM I A L O (b, al, ah, z, f)) Q := by
  have hc2 : m_fb (I 27) (va_up (va_up (va_up A 29 f) 33 b.2.1) 32 b.2.2) f = m_fb w A f := by
    rw [hw]; exact m_fb_c (A := A) (B := va_up (va_up (va_up A 29 f) 33 b.2.1) 32 b.2.2) rfl rfl rfl w f
  exact c_X10_broken (o := 29) (Or.inl rfl) hv (lfi hq hc2)
theorem l_makes (m : Nat) : ∀ {X : XS} {I : Nat → Int32} {A : Nat → Nat → Int32} {L : Nat → Nat → Int64} {O : Nat → UInt64} {Q : AO → AH → Prop} {n i : Nat} {cost w : Int32} {s S : MS} (hw : I 27 = w) (hn : I 20 = nI n) (hn40 : n ≤ 40) (hb : s.1.1 ≤ 5) (hco : m_cost n A (A 30) = cost) (hg : vch (A 30)) (hm : i + m = 21609) (he : fl (mSt w n A (A 30) cost) m i s = S) (hq : Q (.inl none) (hpM I A L O S)), AW X 173 45 [(0, .ref 21), (1, .int cost), (2, .int s.2.2.2.1), (3, .int (nI i))] [] (hpM I A L O s) 0 0 Q := by
  induction m with
  | zero =>
    intro X I A L O Q n i cost w s S hw hn hn40 hb hco hg hm he hq
    refine a_iload_n (i := 3) q173_45 rfl rfl ?_
    refine a_sipush (v := 21609) q173_46 (by decide) ?_
    refine a_icmp_ge (tgt := 202) q173_49 (by decide) (fun zc49 => ?_) (fun zc49 => absurd (nI_le (show 21609 ≤ i by omega) (by omega)) zc49)
    refine a_return q173_202 rfl ?_
    have zs : s = S := he
    subst zs
    exact hq
  | succ m ih =>
    intro X I A L O Q n i cost w s S hw hn hn40 hb hco hg hm he hq
    refine a_iload_n (i := 3) q173_45 rfl rfl ?_
    refine a_sipush (v := 21609) q173_46 (by decide) ?_
    refine a_icmp_ge (tgt := 202) q173_49 (by decide) (fun zc49 => absurd zc49 (nI_ge (show i < 21609 by omega) (by decide))) (fun zc49 => ?_)
    refine a_iload_n (i := 3) q173_52 rfl rfl ?_
    refine a_istore (i := 4) (lv' := [(0, _), (1, _), (2, _), (3, _), (4, _)]) q173_53 rfl rfl ?_
    refine a_iconst (v := 5) q173_55 (by decide) ?_
    refine a_istore (i := 5) (lv' := [(0, _), (1, _), (2, _), (3, _), (4, _), (5, _)]) q173_56 rfl rfl ?_
    refine a_iload q173_58 rfl ?_
    refine a_iconst (v := 2) q173_60 (by decide) ?_
    refine a_icmp_lt (tgt := 91) q173_61 (by decide) (fun zc61 => absurd zc61 (by decide)) (fun zc61 => ?_)
    refine a_aload_n (i := 0) q173_64 rfl rfl ?_
    refine a_getfield q173_65 rfl rfl ?_
    refine a_iload q173_68 rfl ?_
    refine a_iload q173_70 rfl ?_
    refine a_bipush (v := 7) q173_72 (by decide) ?_
    refine a_irem q173_74 (by decide) ?_
    refine AW.ti (pk_rem (a := i) (d := 7) (by omega) (by decide) (by decide)) ?_
    refine a_iconst (v := 1) q173_75 (by decide) ?_
    refine a_isub q173_76 ?_
    refine a_iast' (j := 5) q173_77 rfl rfl (by decide) (by decide) (h' := hp (va_up (va_up (va_up I 22 (nI s.1.1)) 24 s.2.1) 25 s.2.2.1) (va_up (va_up (va_up A 29 (upd s.2.2.2.2 5 (xI (i % 7)))) 33 s.1.2.1) 32 s.1.2.2) L O) rfl ?_
    refine a_iload q173_78 rfl ?_
    refine a_bipush (v := 7) q173_80 (by decide) ?_
    refine a_idiv q173_82 (by decide) ?_
    refine AW.ti (pk_div (a := i) (d := 7) (by omega) (by decide) (by decide)) ?_
    refine a_istore (i := 4) (lv' := [(0, _), (1, _), (2, _), (3, _), (4, _), (5, _)]) q173_83 rfl rfl ?_
    refine a_iinc (v := nI (4)) (lv' := [(0, _), (1, _), (2, _), (3, _), (4, _), (5, _)]) q173_85 rfl rfl (pk_m1 4) rfl ?_
    refine a_goto (tgt := 58) q173_88 (by decide) ?_
    refine a_iload q173_58 rfl ?_
    refine a_iconst (v := 2) q173_60 (by decide) ?_
    refine a_icmp_lt (tgt := 91) q173_61 (by decide) (fun zc61_1 => absurd zc61_1 (by decide)) (fun zc61_1 => ?_)
    refine a_aload_n (i := 0) q173_64 rfl rfl ?_
    refine a_getfield q173_65 rfl rfl ?_
    refine a_iload q173_68 rfl ?_
    refine a_iload q173_70 rfl ?_
    refine a_bipush (v := 7) q173_72 (by decide) ?_
    refine a_irem q173_74 (by decide) ?_
    refine AW.ti (pk_rem (a := i / 7) (d := 7) (by omega) (by decide) (by decide)) ?_
    refine a_iconst (v := 1) q173_75 (by decide) ?_
    refine a_isub q173_76 ?_
    refine a_iast' (j := 4) q173_77 rfl rfl (by decide) (by decide) (h' := hp (va_up (va_up (va_up I 22 (nI s.1.1)) 24 s.2.1) 25 s.2.2.1) (va_up (va_up (va_up A 29 (upd (upd s.2.2.2.2 5 (xI (i % 7))) 4 (xI (i / 7 % 7)))) 33 s.1.2.1) 32 s.1.2.2) L O) rfl ?_
    refine a_iload q173_78 rfl ?_
    refine a_bipush (v := 7) q173_80 (by decide) ?_
    refine a_idiv q173_82 (by decide) ?_
    refine AW.ti (pk_div (a := i / 7) (d := 7) (by omega) (by decide) (by decide)) ?_
    refine a_istore (i := 4) (lv' := [(0, _), (1, _), (2, _), (3, _), (4, _), (5, _)]) q173_83 rfl rfl ?_
    refine a_iinc (v := nI (3)) (lv' := [(0, _), (1, _), (2, _), (3, _), (4, _), (5, _)]) q173_85 rfl rfl (pk_m1 3) rfl ?_
    refine a_goto (tgt := 58) q173_88 (by decide) ?_
    refine a_iload q173_58 rfl ?_
    refine a_iconst (v := 2) q173_60 (by decide) ?_
    refine a_icmp_lt (tgt := 91) q173_61 (by decide) (fun zc61_2 => absurd zc61_2 (by decide)) (fun zc61_2 => ?_)
    refine a_aload_n (i := 0) q173_64 rfl rfl ?_
    refine a_getfield q173_65 rfl rfl ?_
    refine a_iload q173_68 rfl ?_
    refine a_iload q173_70 rfl ?_
    refine a_bipush (v := 7) q173_72 (by decide) ?_
    refine a_irem q173_74 (by decide) ?_
    refine AW.ti (pk_rem (a := i / 7 / 7) (d := 7) (by omega) (by decide) (by decide)) ?_
    refine a_iconst (v := 1) q173_75 (by decide) ?_
    refine a_isub q173_76 ?_
    refine a_iast' (j := 3) q173_77 rfl rfl (by decide) (by decide) (h' := hp (va_up (va_up (va_up I 22 (nI s.1.1)) 24 s.2.1) 25 s.2.2.1) (va_up (va_up (va_up A 29 (upd (upd (upd s.2.2.2.2 5 (xI (i % 7))) 4 (xI (i / 7 % 7))) 3 (xI (i / 7 / 7 % 7)))) 33 s.1.2.1) 32 s.1.2.2) L O) rfl ?_
    refine a_iload q173_78 rfl ?_
    refine a_bipush (v := 7) q173_80 (by decide) ?_
    refine a_idiv q173_82 (by decide) ?_
    refine AW.ti (pk_div (a := i / 7 / 7) (d := 7) (by omega) (by decide) (by decide)) ?_
    refine a_istore (i := 4) (lv' := [(0, _), (1, _), (2, _), (3, _), (4, _), (5, _)]) q173_83 rfl rfl ?_
    refine a_iinc (v := nI (2)) (lv' := [(0, _), (1, _), (2, _), (3, _), (4, _), (5, _)]) q173_85 rfl rfl (pk_m1 2) rfl ?_
    refine a_goto (tgt := 58) q173_88 (by decide) ?_
    refine a_iload q173_58 rfl ?_
    refine a_iconst (v := 2) q173_60 (by decide) ?_
    refine a_icmp_lt (tgt := 91) q173_61 (by decide) (fun zc61_3 => absurd zc61_3 (by decide)) (fun zc61_3 => ?_)
    refine a_aload_n (i := 0) q173_64 rfl rfl ?_
    refine a_getfield q173_65 rfl rfl ?_
    refine a_iload q173_68 rfl ?_
    refine a_iload q173_70 rfl ?_
    refine a_bipush (v := 7) q173_72 (by decide) ?_
    refine a_irem q173_74 (by decide) ?_
    refine AW.ti (pk_rem (a := i / 7 / 7 / 7) (d := 7) (by omega) (by decide) (by decide)) ?_
    refine a_iconst (v := 1) q173_75 (by decide) ?_
    refine a_isub q173_76 ?_
    refine a_iast' (j := 2) q173_77 rfl rfl (by decide) (by decide) (h' := hp (va_up (va_up (va_up I 22 (nI s.1.1)) 24 s.2.1) 25 s.2.2.1) (va_up (va_up (va_up A 29 (upd (upd (upd (upd s.2.2.2.2 5 (xI (i % 7))) 4 (xI (i / 7 % 7))) 3 (xI (i / 7 / 7 % 7))) 2 (xI (i / 7 / 7 / 7 % 7)))) 33 s.1.2.1) 32 s.1.2.2) L O) rfl ?_
    refine a_iload q173_78 rfl ?_
    refine a_bipush (v := 7) q173_80 (by decide) ?_
    refine a_idiv q173_82 (by decide) ?_
    refine AW.ti (pk_div (a := i / 7 / 7 / 7) (d := 7) (by omega) (by decide) (by decide)) ?_
    refine a_istore (i := 4) (lv' := [(0, _), (1, _), (2, _), (3, _), (4, _), (5, _)]) q173_83 rfl rfl ?_
    refine a_iinc (v := nI (1)) (lv' := [(0, _), (1, _), (2, _), (3, _), (4, _), (5, _)]) q173_85 rfl rfl (pk_m1 1) rfl ?_
    refine a_goto (tgt := 58) q173_88 (by decide) ?_
    refine a_iload q173_58 rfl ?_
    refine a_iconst (v := 2) q173_60 (by decide) ?_
    refine a_icmp_lt (tgt := 91) q173_61 (by decide) (fun zc61_4 => ?_) (fun zc61_4 => absurd (by decide) zc61_4)
    refine a_aload_n (i := 0) q173_91 rfl rfl ?_
    refine a_getfield q173_92 rfl rfl ?_
    refine a_iconst (v := 1) q173_95 (by decide) ?_
    refine a_iload q173_96 rfl ?_
    refine a_iconst (v := 3) q173_98 (by decide) ?_
    refine a_irem q173_99 (by decide) ?_
    refine AW.ti (pk_rem (a := i / 7 / 7 / 7 / 7) (d := 3) (by omega) (by decide) (by decide)) ?_
    refine a_iast' (j := 1) q173_100 rfl rfl (by decide) (by decide) (h' := hp (va_up (va_up (va_up I 22 (nI s.1.1)) 24 s.2.1) 25 s.2.2.1) (va_up (va_up (va_up A 29 (upd (upd (upd (upd (upd s.2.2.2.2 5 (xI (i % 7))) 4 (xI (i / 7 % 7))) 3 (xI (i / 7 / 7 % 7))) 2 (xI (i / 7 / 7 / 7 % 7))) 1 (nI (i / 7 / 7 / 7 / 7 % 3)))) 33 s.1.2.1) 32 s.1.2.2) L O) rfl ?_
    refine a_aload_n (i := 0) q173_101 rfl rfl ?_
    refine a_getfield q173_102 rfl rfl ?_
    refine a_iconst (v := 0) q173_105 (by decide) ?_
    refine a_iload q173_106 rfl ?_
    refine a_iconst (v := 3) q173_108 (by decide) ?_
    refine a_idiv q173_109 (by decide) ?_
    refine AW.ti (pk_div (a := i / 7 / 7 / 7 / 7) (d := 3) (by omega) (by decide) (by decide)) ?_
    refine a_iast' (j := 0) q173_110 rfl rfl (by decide) (by decide) (h' := hp (va_up (va_up (va_up I 22 (nI s.1.1)) 24 s.2.1) 25 s.2.2.1) (va_up (va_up (va_up A 29 (dcd s.2.2.2.2 i)) 33 s.1.2.1) 32 s.1.2.2) L O) rfl ?_
    refine a_iload_n (i := 2) q173_111 rfl rfl ?_
    refine AW.cut 132 (b2i (¬ lkT (dcd s.2.2.2.2 i) (A 30) 6)) (fun zk132 => ?_) ?_
    · skip
      refine a_aload_n (i := 0) q173_112 rfl rfl ?_
      refine a_aload_n (i := 0) q173_113 rfl rfl ?_
      refine a_getfield q173_114 rfl rfl ?_
      refine a_aload_n (i := 0) q173_117 rfl rfl ?_
      refine a_getfield q173_118 rfl rfl ?_
      refine a_cv2 q173_121 rfl rfl ⟨rfl, rfl⟩ rfl ?_
      refine c_X10_isLike ?_
      refine ck_r ?_
      refine a_if_ne (tgt := 131) q173_124 (by decide) (fun zc124 => ?_) (fun zc124 => ?_)
      · skip
        refine a_iconst (v := 0) q173_131 (by decide) ?_
        exact cutv zk132 (b2i_f (fun zz => zz (b2i_nz.mp zc124)))
      · skip
        refine a_iconst (v := 1) q173_127 (by decide) ?_
        refine a_goto (tgt := 132) q173_128 (by decide) ?_
        exact cutv zk132 (b2i_t (b2i_z.mp zc124))
    refine a_iand q173_132 ?_
    refine a_istore_n (i := 2) (lv' := [(0, _), (1, _), (2, _), (3, _), (4, _), (5, _)]) q173_133 rfl rfl rfl ?_
    refine a_aload_n (i := 0) q173_134 rfl rfl ?_
    refine a_cv0 q173_135 rfl rfl ⟨rfl, rfl⟩ rfl ?_
    refine c_X10_isDistinct (lfi (x := b2i (m_dst (dcd s.2.2.2.2 i))) ?_ rfl)
    refine ck_r ?_
    refine a_if_eq (tgt := 196) q173_138 (by decide) (fun zc138 => ?_) (fun zc138 => ?_)
    · skip
      refine a_iinc (v := nI (i + 1)) (lv' := [(0, _), (1, _), (2, _), (3, _), (4, _), (5, _)]) q173_196 rfl rfl (nI_1 (i)) rfl ?_
      refine a_goto (tgt := 45) q173_199 (by decide) ?_
      refine AW.pop_less (x := (5, _)) (lv' := [(0, _), (1, _), (2, _), (3, _), (4, _)]) ?_
      refine AW.pop_less (x := (4, _)) (lv' := [(0, _), (1, _), (2, _), (3, _)]) ?_
      have ze : mSt w n A (A 30) cost i s = (s.1, s.2.1, s.2.2.1, (s.2.2.2.1 &&& b2i (¬ lkT (dcd s.2.2.2.2 i) (A 30) 6)), (dcd s.2.2.2.2 i)) := if_neg (fun zz => b2i_z.mp zc138 zz.1)
      rw [fl, ze] at he
      exact ih (s := (s.1, s.2.1, s.2.2.1, (s.2.2.2.1 &&& b2i (¬ lkT (dcd s.2.2.2.2 i) (A 30) 6)), (dcd s.2.2.2.2 i))) hw hn hn40 (hb) hco hg (show i + 1 + m = 21609 by omega) he hq
    · skip
      refine a_aload_n (i := 0) q173_141 rfl rfl ?_
      refine a_aload_n (i := 0) q173_142 rfl rfl ?_
      refine a_getfield q173_143 rfl rfl ?_
      refine a_cv1 q173_146 rfl rfl ⟨rfl, rfl⟩ rfl ?_
      refine c_X10_brokenM (b := s.1) (al := s.2.1) (ah := s.2.2.1) (z := (s.2.2.2.1 &&& b2i (¬ lkT (dcd s.2.2.2.2 i) (A 30) 6))) (f := (dcd s.2.2.2.2 i)) (dcd_v _ _) hw ?_
      refine ck_r ?_
      refine a_if_ne (tgt := 196) q173_149 (by decide) (fun zc149 => ?_) (fun zc149 => ?_)
      · skip
        refine a_iinc (v := nI (i + 1)) (lv' := [(0, _), (1, _), (2, _), (3, _), (4, _), (5, _)]) q173_196 rfl rfl (nI_1 (i)) rfl ?_
        refine a_goto (tgt := 45) q173_199 (by decide) ?_
        refine AW.pop_less (x := (5, _)) (lv' := [(0, _), (1, _), (2, _), (3, _), (4, _)]) ?_
        refine AW.pop_less (x := (4, _)) (lv' := [(0, _), (1, _), (2, _), (3, _)]) ?_
        have ze : mSt w n A (A 30) cost i s = (s.1, s.2.1, s.2.2.1, (s.2.2.2.1 &&& b2i (¬ lkT (dcd s.2.2.2.2 i) (A 30) 6)), (dcd s.2.2.2.2 i)) := if_neg (fun zz => zc149 zz.2)
        rw [fl, ze] at he
        exact ih (s := (s.1, s.2.1, s.2.2.1, (s.2.2.2.1 &&& b2i (¬ lkT (dcd s.2.2.2.2 i) (A 30) 6)), (dcd s.2.2.2.2 i))) hw hn hn40 (hb) hco hg (show i + 1 + m = 21609 by omega) he hq
      · skip
        refine a_aload_n (i := 0) q173_152 rfl rfl ?_
        refine a_cv0 q173_153 rfl rfl ⟨rfl, rfl⟩ rfl ?_
        refine c_X10_laysM (c := (m_cost n A (dcd s.2.2.2.2 i))) (z := (s.2.2.2.1 &&& b2i (¬ lkT (dcd s.2.2.2.2 i) (A 30) 6))) (dcd_v _ _) hn hn40 hb rfl ?_
        refine ck_v ?_
        refine a_aload_n (i := 0) q173_156 rfl rfl ?_
        refine a_aload_n (i := 0) q173_157 rfl rfl ?_
        refine a_getfield q173_158 rfl rfl ?_
        refine a_cv1 q173_161 rfl rfl ⟨rfl, rfl⟩ rfl ?_
        refine c_X10_costM (b := (m_lay (m_cost n A (dcd s.2.2.2.2 i)) (dcd s.2.2.2.2 i) s.1)) (al := s.2.1 + 1) (ah := s.2.2.1) (z := (s.2.2.2.1 &&& b2i (¬ lkT (dcd s.2.2.2.2 i) (A 30) 6))) (f := (dcd s.2.2.2.2 i)) (dcd_v _ _) hn hn40 ?_
        refine ck_r ?_
        refine a_istore (i := 5) (lv' := [(0, _), (1, _), (2, _), (3, _), (4, _), (5, _)]) q173_164 rfl rfl ?_
        refine a_aload_n (i := 0) q173_166 rfl rfl ?_
        refine a_dup q173_167 rfl ?_
        refine a_getfield q173_168 rfl rfl ?_
        refine AW.cut 192 (b2i (((m_cost n A (dcd s.2.2.2.2 i)) < cost ∨ ((m_cost n A (dcd s.2.2.2.2 i)) = cost ∧ ¬ (s.2.2.2.1 &&& b2i (¬ lkT (dcd s.2.2.2.2 i) (A 30) 6)) = 0)))) (fun zk192 => ?_) ?_
        · skip
          refine a_iload q173_171 rfl ?_
          refine a_iload_n (i := 1) q173_173 rfl rfl ?_
          refine a_icmp_lt (tgt := 187) q173_174 (by decide) (fun zc174 => ?_) (fun zc174 => ?_)
          · skip
            refine a_iconst (v := 1) q173_187 (by decide) ?_
            refine a_goto (tgt := 192) q173_188 (by decide) ?_
            exact cutv zk192 (b2i_t (Or.inl zc174))
          · skip
            refine a_iload q173_177 rfl ?_
            refine a_iload_n (i := 1) q173_179 rfl rfl ?_
            refine a_icmp_ne (tgt := 191) q173_180 (by decide) (fun zc180 => ?_) (fun zc180 => ?_)
            · skip
              refine a_iconst (v := 0) q173_191 (by decide) ?_
              exact cutv zk192 (b2i_f (fun zz => zz.elim zc174 (fun z2 => zc180 z2.1)))
            · skip
              refine a_iload_n (i := 2) q173_183 rfl rfl ?_
              refine a_if_eq (tgt := 191) q173_184 (by decide) (fun zc184 => ?_) (fun zc184 => ?_)
              · skip
                refine a_iconst (v := 0) q173_191 (by decide) ?_
                exact cutv zk192 (b2i_f (fun zz => zz.elim zc174 (fun z2 => z2.2 zc184)))
              · skip
                refine a_iconst (v := 1) q173_187 (by decide) ?_
                refine a_goto (tgt := 192) q173_188 (by decide) ?_
                exact cutv zk192 (b2i_t (Or.inr (And.intro zc180 zc184)))
        refine a_iadd q173_192 ?_
        refine a_putfield q173_193 rfl rfl rfl rfl ?_
        refine AW.hp (h' := hpM I A L O ((m_lay (m_cost n A (dcd s.2.2.2.2 i)) (dcd s.2.2.2.2 i) s.1), s.2.1 + 1, s.2.2.1 + b2i ((m_cost n A (dcd s.2.2.2.2 i)) < cost ∨ ((m_cost n A (dcd s.2.2.2.2 i)) = cost ∧ ¬ (s.2.2.2.1 &&& b2i (¬ lkT (dcd s.2.2.2.2 i) (A 30) 6)) = 0)), (s.2.2.2.1 &&& b2i (¬ lkT (dcd s.2.2.2.2 i) (A 30) 6)), (dcd s.2.2.2.2 i))) rfl ?_
        refine a_iinc (v := nI (i + 1)) (lv' := [(0, _), (1, _), (2, _), (3, _), (4, _), (5, _)]) q173_196 rfl rfl (nI_1 (i)) rfl ?_
        refine a_goto (tgt := 45) q173_199 (by decide) ?_
        refine AW.pop_less (x := (5, _)) (lv' := [(0, _), (1, _), (2, _), (3, _), (4, _)]) ?_
        refine AW.pop_less (x := (4, _)) (lv' := [(0, _), (1, _), (2, _), (3, _)]) ?_
        have ze : mSt w n A (A 30) cost i s = ((m_lay (m_cost n A (dcd s.2.2.2.2 i)) (dcd s.2.2.2.2 i) s.1), s.2.1 + 1, s.2.2.1 + b2i ((m_cost n A (dcd s.2.2.2.2 i)) < cost ∨ ((m_cost n A (dcd s.2.2.2.2 i)) = cost ∧ ¬ (s.2.2.2.1 &&& b2i (¬ lkT (dcd s.2.2.2.2 i) (A 30) 6)) = 0)), (s.2.2.2.1 &&& b2i (¬ lkT (dcd s.2.2.2.2 i) (A 30) 6)), (dcd s.2.2.2.2 i)) := if_pos (And.intro (b2i_nz.mp zc138) zc149)
        rw [fl, ze] at he
        exact ih (s := ((m_lay (m_cost n A (dcd s.2.2.2.2 i)) (dcd s.2.2.2.2 i) s.1), s.2.1 + 1, s.2.2.1 + b2i ((m_cost n A (dcd s.2.2.2.2 i)) < cost ∨ ((m_cost n A (dcd s.2.2.2.2 i)) = cost ∧ ¬ (s.2.2.2.1 &&& b2i (¬ lkT (dcd s.2.2.2.2 i) (A 30) 6)) = 0)), (s.2.2.2.1 &&& b2i (¬ lkT (dcd s.2.2.2.2 i) (A 30) 6)), (dcd s.2.2.2.2 i))) hw hn hn40 (m_lay_le hb) hco hg (show i + 1 + m = 21609 by omega) he hq

/-- what the model's round makes out of a state -/
def mkS (w : Int32) (n : Nat) (A : Nat → Nat → Int32) : MS := fl (mSt w n (kndA A n 6) (kndA A n 6 30) (m_cost n (kndA A n 6) (kndA A n 6 30))) 21609 0 ((0, kndA A n 6 33, kndA A n 6 32), 0, 0, 1, kndA A n 6 29)
def mkI (I : Nat → Int32) (n : Nat) (A : Nat → Nat → Int32) : Nat → Int32 := if I 29 = 0 then va_up (va_up (va_up (va_up I 29 1) 22 (nI (mkS (I 27) n A).1.1)) 24 (mkS (I 27) n A).2.1) 25 (mkS (I 27) n A).2.2.1 else I
def mkA (I : Nat → Int32) (n : Nat) (A : Nat → Nat → Int32) : Nat → Nat → Int32 := if I 29 = 0 then va_up (va_up (va_up (kndA A n 6) 29 (mkS (I 27) n A).2.2.2.2) 33 (mkS (I 27) n A).1.2.1) 32 (mkS (I 27) n A).1.2.2 else A
abbrev hpK (I : Nat → Int32) (A : Nat → Nat → Int32) (L : Nat → Nat → Int64) (O : Nat → UInt64) (n : Nat) : AH := hp (mkI I n A) (mkA I n A) L O
theorem mkK_0 {I : Nat → Int32} {A : Nat → Nat → Int32} {L : Nat → Nat → Int64} {O : Nat → UInt64} {n : Nat} (h : I 29 = 0) : hpK I A L O n = hpM (va_up I 29 1) (kndA A n 6) L O (mkS (I 27) n A) := by
  unfold hpK mkI mkA; rw [if_pos h, if_pos h]
theorem mkK_1 {I : Nat → Int32} {A : Nat → Nat → Int32} {L : Nat → Nat → Int64} {O : Nat → UInt64} {n : Nat} (h : ¬ I 29 = 0) : hpK I A L O n = hp I A L O := by
  unfold hpK mkI mkA; rw [if_neg h, if_neg h]
theorem mkS_e (w : Int32) (n : Nat) (A : Nat → Nat → Int32) : fl (mSt w n (kndA A n 6) (kndA A n 6 30) (m_cost n (kndA A n 6) (kndA A n 6 30))) 21609 0 ((0, kndA A n 6 33, kndA A n 6 32), 0, 0, 1, kndA A n 6 29) = mkS w n A := (mkS.eq_1 w n A).symm
theorem makes_end {X : XS} {I : Nat → Int32} {A : Nat → Nat → Int32} {L : Nat → Nat → Int64} {O : Nat → UInt64} {Q : AO → AH → Prop} {n : Nat} {B : Nat → Nat → Int32} {cost w : Int32} {S : MS} (hw : I 27 = w) (hn : I 20 = nI n) (hn40 : n ≤ 40) (hg : vch (B 30)) (hco : m_cost n B (B 30) = cost) (he : fl (mSt w n B (B 30) cost) 21609 0 ((0, B 33, B 32), 0, 0, 1, B 29) = S) (hq : Q (.inl none) (hpM I B L O S)) : AW X 173 45 [(0, .ref 21), (1, .int cost), (2, .int 1), (3, .int 0)] [] (hp (va_up (va_up (va_up I 22 0) 24 0) 25 0) B L O) 0 0 Q := by
  refine AW.hp (h' := hpM I B L O ((0, B 33, B 32), 0, 0, 1, B 29)) rfl ?_
  exact l_makes 21609 (i := 0) (s := ((0, B 33, B 32), 0, 0, 1, B 29)) hw hn hn40 (Nat.zero_le 5) hco hg (Nat.zero_add 21609) he hq
theorem c_X10_makes {X : XS} {I : Nat → Int32} {A : Nat → Nat → Int32} {L : Nat → Nat → Int64} {O : Nat → UInt64} {Q : AO → AH → Prop} {n : Nat} (hn : I 20 = nI n) (hn40 : n ≤ 40) (hg : vch (A 30)) (hq : Q (.inl none) (hpK I A L O n)) : Call X 173 [.ref 21] (hp I A L O) Q := by
  refine call_of (by decide) rfl rfl ?_
  refine a_aload_n (i := 0) q173_0 rfl rfl ?_
  refine a_getfield q173_1 rfl rfl ?_
  refine a_if_eq (tgt := 8) q173_4 (by decide) (fun zc4 => ?_) (fun zc4 => ?_)
  · skip
    refine a_aload_n (i := 0) q173_8 rfl rfl ?_
    refine a_iconst (v := 1) q173_9 (by decide) ?_
    refine a_putfield q173_10 rfl rfl rfl rfl ?_
    refine AW.hp (h' := hp (va_up I 29 1) A L O) rfl ?_
    refine a_aload_n (i := 0) q173_13 rfl rfl ?_
    refine a_cv0 q173_14 rfl rfl ⟨rfl, rfl⟩ rfl ?_
    refine c_X10_kinds hn hn40 ?_
    refine ck_v ?_
    refine a_aload_n (i := 0) q173_17 rfl rfl ?_
    refine a_iconst (v := 0) q173_18 (by decide) ?_
    refine a_putfield q173_19 rfl rfl rfl rfl ?_
    refine AW.hp (h' := hp (va_up (va_up I 29 1) 22 0) (kndA A n 6) L O) rfl ?_
    refine a_aload_n (i := 0) q173_22 rfl rfl ?_
    refine a_iconst (v := 0) q173_23 (by decide) ?_
    refine a_putfield q173_24 rfl rfl rfl rfl ?_
    refine AW.hp (h' := hp (va_up (va_up (va_up I 29 1) 22 0) 24 0) (kndA A n 6) L O) rfl ?_
    refine a_aload_n (i := 0) q173_27 rfl rfl ?_
    refine a_iconst (v := 0) q173_28 (by decide) ?_
    refine a_putfield q173_29 rfl rfl rfl rfl ?_
    refine AW.hp (h' := hp (va_up (va_up (va_up (va_up I 29 1) 22 0) 24 0) 25 0) (kndA A n 6) L O) rfl ?_
    refine a_aload_n (i := 0) q173_32 rfl rfl ?_
    refine a_aload_n (i := 0) q173_33 rfl rfl ?_
    refine a_getfield q173_34 rfl rfl ?_
    refine a_cv1 q173_37 rfl rfl ⟨rfl, rfl⟩ rfl ?_
    refine c_X10_costOf (o := 30) (Or.inr (Or.inl rfl)) hg hn hn40 ?_
    refine ck_r ?_
    refine a_istore_n (i := 1) (lv' := [(0, _), (1, _)]) q173_40 rfl rfl rfl ?_
    refine a_iconst (v := 1) q173_41 (by decide) ?_
    refine a_istore_n (i := 2) (lv' := [(0, _), (1, _), (2, _)]) q173_42 rfl rfl rfl ?_
    refine a_iconst (v := 0) q173_43 (by decide) ?_
    refine a_istore_n (i := 3) (lv' := [(0, _), (1, _), (2, _), (3, _)]) q173_44 rfl rfl rfl ?_
    rw [mkK_0 zc4] at hq
    exact makes_end (A := A) (w := I 27) rfl hn hn40 hg rfl (mkS_e (I 27) n A) hq
  · skip
    refine a_return q173_7 rfl ?_
    rw [mkK_1 zc4] at hq
    exact hq
