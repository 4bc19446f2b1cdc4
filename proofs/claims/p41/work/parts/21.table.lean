/-! the table -/
theorem nI_ix (c r : Nat) : nI c * 40 + nI r = nI (c * 40 + r) := by
  show Int32.ofNat c * Int32.ofNat 40 + Int32.ofNat r = Int32.ofNat (c * 40 + r)
  rw [← Int32.ofNat_mul, ← Int32.ofNat_add]
theorem isCol_n {c : Nat} (h : c < 6) : isCol (nI c) := ⟨nI_pos' (by omega), nI_lt h (by decide)⟩
theorem isRow_n {I : Nat → Int32} {r n : Nat} (hn : I 2 = nI n) (hn40 : n ≤ 40) (h : r < n) : isRow I (nI r) := ⟨nI_pos' (by omega), by rw [hn]; exact nI_lt h (by omega), nI_lt (show r < 40 by omega) (by decide)⟩
def cv (A : Nat → Nat → Int32) (c r : Nat) : Int32 := A 2 (c * 40 + r)
theorem c_col {c : Nat} (h : c < 6) : ¬ b2i (isCol (nI c)) = 0 := b2i_nz.mpr (isCol_n h)
theorem r_row {I : Nat → Int32} {r n : Nat} (hn : I 2 = nI n) (hn40 : n ≤ 40) (h : r < n) : ¬ b2i (isRow I (nI r)) = 0 := b2i_nz.mpr (isRow_n hn hn40 h)

theorem c_X7_valueAt_n {X : XS} {I : Nat → Int32} {A : Nat → Nat → Int32} {L : Nat → Nat → Int64} {O : AH} {Q : AO → AH → Prop} {c r n : Nat} (hn : I 2 = nI n) (hn40 : n ≤ 40) (hr : r < n) (hc : c < 6) (hq : Q (.inl (some (.int (cv A c r)))) (hp I A L O)) : Call X 46 [.ref 2, .int (nI r), .int (nI c)] (hp I A L O) Q := by
  refine call_of (by decide) rfl rfl ?_
  refine a_aload_n (i := 0) q46_0 rfl rfl ?_
  refine a_iload_n (i := 1) q46_1 rfl rfl ?_
  refine a_cv1 q46_2 rfl rfl ⟨rfl, rfl⟩ rfl ?_
  refine c_X7_hasRow ?_
  refine ck_r ?_
  refine a_if_eq (tgt := 29) q46_5 (by decide) (fun zc5 => absurd zc5 (r_row hn hn40 hr)) (fun zc5 => ?_)
  refine a_iload_n (i := 2) q46_8 rfl rfl ?_
  refine a_cs1 q46_9 rfl ⟨rfl, rfl⟩ rfl ?_
  refine c_X9_isColumn ?_
  refine ck_r ?_
  refine a_if_eq (tgt := 29) q46_12 (by decide) (fun zc12 => absurd zc12 (c_col hc)) (fun zc12 => ?_)
  refine a_aload_n (i := 0) q46_15 rfl rfl ?_
  refine a_getfield q46_16 rfl rfl ?_
  refine a_iload_n (i := 2) q46_19 rfl rfl ?_
  refine a_bipush (v := 40) q46_20 (by decide) ?_
  refine a_imul q46_22 ?_
  refine a_iload_n (i := 1) q46_23 rfl rfl ?_
  refine a_iadd q46_24 ?_
  refine a_iald' (j := c * 40 + r) q46_25 rfl (nI_ix c r) (by omega) (by decide) ?_
  refine a_goto (tgt := 32) q46_26 (by decide) ?_
  refine a_ireturn q46_32 (nr_int rfl _) ?_
  exact hq

abbrev st1 (A : Nat → Nat → Int32) (c r : Nat) (v : Int32) : Nat → Nat → Int32 := va_up A 2 (upd (A 2) (c * 40 + r) v)
theorem c_X7_store_n {X : XS} {I : Nat → Int32} {A : Nat → Nat → Int32} {L : Nat → Nat → Int64} {O : AH} {Q : AO → AH → Prop} {c r n : Nat} (hn : I 2 = nI n) (hn40 : n ≤ 40) (hr : r < n) (hc : c < 6) {v : Int32} (hq : Q (.inl none) (hp I (st1 A c r v) L O)) : Call X 59 [.ref 2, .int (nI r), .int (nI c), .int v] (hp I A L O) Q := by
  refine call_of (by decide) rfl rfl ?_
  refine a_aload_n (i := 0) q59_0 rfl rfl ?_
  refine a_iload_n (i := 1) q59_1 rfl rfl ?_
  refine a_cv1 q59_2 rfl rfl ⟨rfl, rfl⟩ rfl ?_
  refine c_X7_hasRow ?_
  refine ck_r ?_
  refine a_if_eq (tgt := 27) q59_5 (by decide) (fun zc5 => absurd zc5 (r_row hn hn40 hr)) (fun zc5 => ?_)
  refine a_iload_n (i := 2) q59_8 rfl rfl ?_
  refine a_cs1 q59_9 rfl ⟨rfl, rfl⟩ rfl ?_
  refine c_X9_isColumn ?_
  refine ck_r ?_
  refine a_if_eq (tgt := 27) q59_12 (by decide) (fun zc12 => absurd zc12 (c_col hc)) (fun zc12 => ?_)
  refine a_aload_n (i := 0) q59_15 rfl rfl ?_
  refine a_getfield q59_16 rfl rfl ?_
  refine a_iload_n (i := 2) q59_19 rfl rfl ?_
  refine a_bipush (v := 40) q59_20 (by decide) ?_
  refine a_imul q59_22 ?_
  refine a_iload_n (i := 1) q59_23 rfl rfl ?_
  refine a_iadd q59_24 ?_
  refine a_iload_n (i := 3) q59_25 rfl rfl ?_
  refine a_iast' q59_26 rfl (j := c * 40 + r) (nI_ix c r) (by omega) (by decide) (h' := hp I (st1 A c r v) L O) rfl ?_
  refine a_return q59_27 rfl ?_
  exact hq

abbrev isNew (f : Nat → Int32) (r : Nat) : Prop := ∀ e, e < r → ¬ f e = f r
theorem l_isNewAt (m : Nat) : ∀ {X : XS} {I : Nat → Int32} {A : Nat → Nat → Int32} {L : Nat → Nat → Int64} {O : AH} {Q : AO → AH → Prop} {c r n e : Nat} (hn : I 2 = nI n) (hn40 : n ≤ 40) (hr : r < n) (hc : c < 6) (hm : e + m = r) (hs : ∀ z, z < e → ¬ cv A c z = cv A c r) (hq : Q (.inl (some (.int (b2i (isNew (cv A c) r))))) (hp I A L O)), AW X 62 10 [(0, .ref 2), (1, .int (nI r)), (2, .int (nI c)), (3, .int (cv A c r)), (4, .int (nI e))] [] (hp I A L O) 0 0 Q := by
  induction m with
  | zero =>
    intro X I A L O Q c r n e hn hn40 hr hc hm hs hq
    refine a_iload q62_10 rfl ?_
    refine a_iload_n (i := 1) q62_12 rfl rfl ?_
    refine a_icmp_ge (tgt := 35) q62_13 (by decide) (fun zc13 => ?_) (fun zc13 => absurd (nI_le (show r ≤ e by omega) (by omega)) zc13)
    refine a_iconst (v := 1) q62_35 (by decide) ?_
    refine a_ireturn q62_36 (nr_bool rfl (by decide)) ?_
    exact lfi hq (b2i_t (p := isNew (cv A c) r) (fun z hz => hs z (by omega))).symm
  | succ m ih =>
    intro X I A L O Q c r n e hn hn40 hr hc hm hs hq
    refine a_iload q62_10 rfl ?_
    refine a_iload_n (i := 1) q62_12 rfl rfl ?_
    refine a_icmp_ge (tgt := 35) q62_13 (by decide) (fun zc13 => absurd zc13 (nI_ge (show e < r by omega) (by omega))) (fun zc13 => ?_)
    refine a_aload_n (i := 0) q62_16 rfl rfl ?_
    refine a_iload q62_17 rfl ?_
    refine a_iload_n (i := 2) q62_19 rfl rfl ?_
    refine a_cv2 q62_20 rfl rfl ⟨rfl, rfl⟩ rfl ?_
    refine c_X7_valueAt_n hn hn40 (by omega) hc ?_
    refine ck_r ?_
    refine a_iload_n (i := 3) q62_23 rfl rfl ?_
    refine a_icmp_ne (tgt := 29) q62_24 (by decide) (fun zc24 => ?_) (fun zc24 => ?_)
    · skip
      refine a_iinc (v := nI (e + 1)) (lv' := [(0, _), (1, _), (2, _), (3, _), (4, _)]) q62_29 rfl rfl (nI_1 (e)) rfl ?_
      refine a_goto (tgt := 10) q62_32 (by decide) ?_
      exact ih hn hn40 hr hc (show e + 1 + m = r by omega) (fun z hz => if hh : z = e then hh ▸ zc24 else hs z (by omega)) hq
    · skip
      refine a_iconst (v := 0) q62_27 (by decide) ?_
      refine a_ireturn q62_28 (nr_bool rfl (by decide)) ?_
      exact lfi hq (b2i_f (p := isNew (cv A c) r) (fun hh => hh e (by omega) zc24)).symm

theorem c_X7_isNewAt_n {X : XS} {I : Nat → Int32} {A : Nat → Nat → Int32} {L : Nat → Nat → Int64} {O : AH} {Q : AO → AH → Prop} {c r n : Nat} (hn : I 2 = nI n) (hn40 : n ≤ 40) (hr : r < n) (hc : c < 6) (hq : Q (.inl (some (.int (b2i (isNew (cv A c) r))))) (hp I A L O)) : Call X 62 [.ref 2, .int (nI r), .int (nI c)] (hp I A L O) Q := by
  refine call_of (by decide) rfl rfl ?_
  refine a_aload_n (i := 0) q62_0 rfl rfl ?_
  refine a_iload_n (i := 1) q62_1 rfl rfl ?_
  refine a_iload_n (i := 2) q62_2 rfl rfl ?_
  refine a_cv2 q62_3 rfl rfl ⟨rfl, rfl⟩ rfl ?_
  refine c_X7_valueAt_n hn hn40 (by omega) hc ?_
  refine ck_r ?_
  refine a_istore_n (i := 3) (lv' := [(0, _), (1, _), (2, _), (3, _)]) q62_6 rfl rfl rfl ?_
  refine a_iconst (v := 0) q62_7 (by decide) ?_
  refine a_istore (i := 4) (lv' := [(0, _), (1, _), (2, _), (3, _), (4, _)]) q62_8 rfl rfl ?_
  exact l_isNewAt r hn hn40 hr hc (e := 0) (by omega) (fun z hz => absurd hz (Nat.not_lt_zero z)) hq

def stCnt (f : Nat → Int32) : Nat → Int32
  | 0 => 0
  | n + 1 => if f n = -10000 then stCnt f n else stCnt f n + 1
def stDif (f : Nat → Int32) : Nat → Int32
  | 0 => 0
  | n + 1 => if f n = -10000 then stDif f n else stDif f n + b2i (isNew f n)
def stSum (f : Nat → Int32) : Nat → Int64
  | 0 => 0
  | n + 1 => if f n = -10000 then stSum f n else stSum f n + (f n).toInt64
def stGap (f : Nat → Int32) : Nat → Int64
  | 0 => 0
  | n + 1 => if f n = -10000 then stGap f n ||| ((1 : Int64) <<< ((nI n).toInt64 &&& 63)) else stGap f n
def stLast (f : Nat → Int32) : Nat → Int32
  | 0 => -10000
  | n + 1 => if f n = -10000 then stLast f n else f n
def stRis (f : Nat → Int32) : Nat → Int32
  | 0 => 1
  | n + 1 => if f n = -10000 then stRis f n else b2i (¬ stRis f n = 0 ∧ stLast f n < f n)
def studyA (A : Nat → Nat → Int32) (c n : Nat) : Nat → Nat → Int32 :=
  va_up (va_up (va_up A 5 (upd (A 5) c (stCnt (cv A c) n))) 6 (upd (A 6) c (stDif (cv A c) n))) 4 (upd (A 4) c (g_kind (stCnt (cv A c) n) (stDif (cv A c) n) (A 3 c) (stRis (cv A c) n)))
def studyL (A : Nat → Nat → Int32) (L : Nat → Nat → Int64) (c n : Nat) : Nat → Nat → Int64 :=
  va_up (va_up L 7 (vp_updL (L 7) c (stSum (cv A c) n))) 8 (vp_updL (L 8) c (stGap (cv A c) n))
theorem l_study (m : Nat) : ∀ {X : XS} {I : Nat → Int32} {A : Nat → Nat → Int32} {L : Nat → Nat → Int64} {O : AH} {Q : AO → AH → Prop} {c r n : Nat} (hn : I 2 = nI n) (hn40 : n ≤ 40) (hc : c < 6) (hm : r + m = n) (hq : Q (.inl none) (hp I (studyA A c n) (studyL A L c n) O)), AW X 61 29 [(0, .ref 2), (1, .int (nI c)), (2, .int (stCnt (cv A c) r)), (3, .int (stDif (cv A c) r)), (4, .long (stSum (cv A c) r)), (6, .long (stGap (cv A c) r)), (8, .int (stRis (cv A c) r)), (9, .int (stLast (cv A c) r)), (10, .int (nI r))] [] (hp I A L O) 0 0 Q := by
  induction m with
  | zero =>
    intro X I A L O Q c r n hn hn40 hc hm hq
    refine a_iload q61_29 rfl ?_
    refine a_aload_n (i := 0) q61_31 rfl rfl ?_
    refine a_getfield q61_32 rfl rfl ?_
    refine AW.ti hn ?_
    refine a_icmp_ge (tgt := 125) q61_35 (by decide) (fun zc35 => ?_) (fun zc35 => absurd (nI_le (show n ≤ r by omega) (by omega)) zc35)
    have zr : n = r := by omega
    subst zr
    refine a_aload_n (i := 0) q61_125 rfl rfl ?_
    refine a_getfield q61_126 rfl rfl ?_
    refine a_iload_n (i := 1) q61_129 rfl rfl ?_
    refine a_iload_n (i := 2) q61_130 rfl rfl ?_
    refine a_iast' q61_131 rfl (j := c) rfl hc (by decide) (h' := hp I (va_up A 5 (upd (A 5) c (stCnt (cv A c) n))) L O) rfl ?_
    refine a_aload_n (i := 0) q61_132 rfl rfl ?_
    refine a_getfield q61_133 rfl rfl ?_
    refine a_iload_n (i := 1) q61_136 rfl rfl ?_
    refine a_iload_n (i := 3) q61_137 rfl rfl ?_
    refine a_iast' q61_138 rfl (j := c) rfl hc (by decide) (h' := hp I (va_up (va_up A 5 (upd (A 5) c (stCnt (cv A c) n))) 6 (upd (A 6) c (stDif (cv A c) n))) L O) rfl ?_
    refine a_aload_n (i := 0) q61_139 rfl rfl ?_
    refine a_getfield q61_140 rfl rfl ?_
    refine a_iload_n (i := 1) q61_143 rfl rfl ?_
    refine a_lload q61_144 rfl ?_
    refine a_last' q61_146 rfl (j := c) rfl hc (by decide) (h' := hp I (va_up (va_up A 5 (upd (A 5) c (stCnt (cv A c) n))) 6 (upd (A 6) c (stDif (cv A c) n))) (va_up L 7 (vp_updL (L 7) c (stSum (cv A c) n))) O) rfl ?_
    refine a_aload_n (i := 0) q61_147 rfl rfl ?_
    refine a_getfield q61_148 rfl rfl ?_
    refine a_iload_n (i := 1) q61_151 rfl rfl ?_
    refine a_lload q61_152 rfl ?_
    refine a_last' q61_154 rfl (j := c) rfl hc (by decide) (h' := hp I (va_up (va_up A 5 (upd (A 5) c (stCnt (cv A c) n))) 6 (upd (A 6) c (stDif (cv A c) n))) (studyL A L c n) O) rfl ?_
    refine a_aload_n (i := 0) q61_155 rfl rfl ?_
    refine a_getfield q61_156 rfl rfl ?_
    refine a_iload_n (i := 1) q61_159 rfl rfl ?_
    refine a_iload_n (i := 2) q61_160 rfl rfl ?_
    refine a_iload_n (i := 3) q61_161 rfl rfl ?_
    refine a_aload_n (i := 0) q61_162 rfl rfl ?_
    refine a_getfield q61_163 rfl rfl ?_
    refine a_iload_n (i := 1) q61_166 rfl rfl ?_
    refine a_iald' q61_167 rfl (j := c) rfl hc (by decide) ?_
    refine a_iload q61_168 rfl ?_
    refine a_cs4 q61_170 rfl ⟨rfl, rfl⟩ rfl ?_
    refine c_X7_kindFrom ?_
    refine ck_r ?_
    refine a_iast' q61_173 rfl (j := c) rfl hc (by decide) (h' := hp I (studyA A c n) (studyL A L c n) O) rfl ?_
    refine a_return q61_174 rfl ?_
    exact hq
  | succ m ih =>
    intro X I A L O Q c r n hn hn40 hc hm hq
    refine a_iload q61_29 rfl ?_
    refine a_aload_n (i := 0) q61_31 rfl rfl ?_
    refine a_getfield q61_32 rfl rfl ?_
    refine AW.ti hn ?_
    refine a_icmp_ge (tgt := 125) q61_35 (by decide) (fun zc35 => absurd zc35 (nI_ge (show r < n by omega) (by omega))) (fun zc35 => ?_)
    refine a_aload_n (i := 0) q61_38 rfl rfl ?_
    refine a_iload q61_39 rfl ?_
    refine a_iload_n (i := 1) q61_41 rfl rfl ?_
    refine a_cv2 q61_42 rfl rfl ⟨rfl, rfl⟩ rfl ?_
    refine c_X7_valueAt_n hn hn40 (by omega) hc ?_
    refine ck_r ?_
    refine a_istore (i := 11) (lv' := [(0, _), (1, _), (2, _), (3, _), (4, _), (6, _), (8, _), (9, _), (10, _), (11, _)]) q61_45 rfl rfl ?_
    refine a_iload q61_47 rfl ?_
    refine a_sipush (v := (-10000)) q61_49 (by decide) ?_
    refine a_icmp_ne (tgt := 67) q61_52 (by decide) (fun zc52 => ?_) (fun zc52 => ?_)
    · skip
      refine a_iinc (lv' := [(0, _), (1, _), (2, _), (3, _), (4, _), (6, _), (8, _), (9, _), (10, _), (11, _)]) q61_67 rfl rfl rfl rfl ?_
      refine a_lload q61_70 rfl ?_
      refine a_iload q61_72 rfl ?_
      refine a_i2l q61_74 ?_
      refine a_ladd q61_75 ?_
      refine a_lstore (i := 4) (lv' := [(0, _), (1, _), (2, _), (3, _), (4, _), (6, _), (8, _), (9, _), (10, _), (11, _)]) q61_76 rfl rfl ?_
      refine a_iload_n (i := 3) q61_78 rfl rfl ?_
      refine a_aload_n (i := 0) q61_79 rfl rfl ?_
      refine a_iload q61_80 rfl ?_
      refine a_iload_n (i := 1) q61_82 rfl rfl ?_
      refine a_cv2 q61_83 rfl rfl ⟨rfl, rfl⟩ rfl ?_
      refine c_X7_isNewAt_n hn hn40 (by omega) hc ?_
      refine ck_r ?_
      refine AW.cutS 94 (b2i (isNew (cv A c) r)) (fun zk94 => ?_) ?_
      · skip
        refine a_if_eq (tgt := 93) q61_86 (by decide) (fun zc86 => ?_) (fun zc86 => ?_)
        · skip
          refine a_iconst (v := 0) q61_93 (by decide) ?_
          exact cutv zk94 (by clear zk94; have zl := @b2i_01 (isNew (cv A c) r) _; rcases zl with zl | zl <;> simp_all)
        · skip
          refine a_iconst (v := 1) q61_89 (by decide) ?_
          refine a_goto (tgt := 94) q61_90 (by decide) ?_
          exact cutv zk94 (by clear zk94; have zl := @b2i_01 (isNew (cv A c) r) _; rcases zl with zl | zl <;> simp_all)
      refine a_iadd q61_94 ?_
      refine a_istore_n (i := 3) (lv' := [(0, _), (1, _), (2, _), (3, _), (4, _), (6, _), (8, _), (9, _), (10, _), (11, _)]) q61_95 rfl rfl rfl ?_
      refine AW.cut 113 (b2i (¬ stRis (cv A c) r = 0 ∧ stLast (cv A c) r < cv A c r)) (fun zk113 => ?_) ?_
      · skip
        refine a_iload q61_96 rfl ?_
        refine a_if_eq (tgt := 112) q61_98 (by decide) (fun zc98 => ?_) (fun zc98 => ?_)
        · skip
          refine a_iconst (v := 0) q61_112 (by decide) ?_
          exact cutv zk113 (by clear zk113 hq; have zl := lits; unfold b2i; split <;> ((try simp only [b2i_z] at *) <;> (simp only [isCol, isChan, f_forb, f_forbs, f_dull, f_wished, kd, dlk, f_hgt, b2i_z, i_lt, i_le, i_eq] at * <;> omega)))
        · skip
          refine a_iload q61_101 rfl ?_
          refine a_iload q61_103 rfl ?_
          refine a_icmp_le (tgt := 112) q61_105 (by decide) (fun zc105 => ?_) (fun zc105 => ?_)
          · skip
            refine a_iconst (v := 0) q61_112 (by decide) ?_
            exact cutv zk113 (by clear zk113 hq; have zl := lits; unfold b2i; split <;> ((try simp only [b2i_z] at *) <;> (simp only [isCol, isChan, f_forb, f_forbs, f_dull, f_wished, kd, dlk, f_hgt, b2i_z, i_lt, i_le, i_eq] at * <;> omega)))
          · skip
            refine a_iconst (v := 1) q61_108 (by decide) ?_
            refine a_goto (tgt := 113) q61_109 (by decide) ?_
            exact cutv zk113 (by clear zk113 hq; have zl := lits; unfold b2i; split <;> ((try simp only [b2i_z] at *) <;> (simp only [isCol, isChan, f_forb, f_forbs, f_dull, f_wished, kd, dlk, f_hgt, b2i_z, i_lt, i_le, i_eq] at * <;> omega)))
      refine a_istore (i := 8) (lv' := [(0, _), (1, _), (2, _), (3, _), (4, _), (6, _), (8, _), (9, _), (10, _), (11, _)]) q61_113 rfl rfl ?_
      refine a_iload q61_115 rfl ?_
      refine a_istore (i := 9) (lv' := [(0, _), (1, _), (2, _), (3, _), (4, _), (6, _), (8, _), (9, _), (10, _), (11, _)]) q61_117 rfl rfl ?_
      refine a_iinc (v := nI (r + 1)) (lv' := [(0, _), (1, _), (2, _), (3, _), (4, _), (6, _), (8, _), (9, _), (10, _), (11, _)]) q61_119 rfl rfl (nI_1 (r)) rfl ?_
      refine a_goto (tgt := 29) q61_122 (by decide) ?_
      refine AW.pop_less (x := (11, _)) (lv' := [(0, _), (1, _), (2, _), (3, _), (4, _), (6, _), (8, _), (9, _), (10, _)]) ?_
      have zi := ih (X := X) hn hn40 hc (show r + 1 + m = n by omega) hq
      simp only [stCnt, stDif, stSum, stGap, stRis, stLast, if_neg zc52] at zi
      exact zi
    · skip
      refine a_lload q61_55 rfl ?_
      refine a_lconst (v := 1) q61_57 (by decide) ?_
      refine a_iload q61_58 rfl ?_
      refine a_lshl q61_60 ?_
      refine a_lor q61_61 ?_
      refine a_lstore (i := 6) (lv' := [(0, _), (1, _), (2, _), (3, _), (4, _), (6, _), (8, _), (9, _), (10, _), (11, _)]) q61_62 rfl rfl ?_
      refine a_goto (tgt := 119) q61_64 (by decide) ?_
      refine a_iinc (v := nI (r + 1)) (lv' := [(0, _), (1, _), (2, _), (3, _), (4, _), (6, _), (8, _), (9, _), (10, _), (11, _)]) q61_119 rfl rfl (nI_1 (r)) rfl ?_
      refine a_goto (tgt := 29) q61_122 (by decide) ?_
      refine AW.pop_less (x := (11, _)) (lv' := [(0, _), (1, _), (2, _), (3, _), (4, _), (6, _), (8, _), (9, _), (10, _)]) ?_
      have zi := ih (X := X) hn hn40 hc (show r + 1 + m = n by omega) hq
      simp only [stCnt, stDif, stSum, stGap, stRis, stLast, if_pos zc52] at zi
      exact zi

theorem c_X7_study {X : XS} {I : Nat → Int32} {A : Nat → Nat → Int32} {L : Nat → Nat → Int64} {O : AH} {Q : AO → AH → Prop} {c n : Nat} (hn : I 2 = nI n) (hn40 : n ≤ 40) (hc : c < 6) (hq : Q (.inl none) (hp I (studyA A c n) (studyL A L c n) O)) : Call X 61 [.ref 2, .int (nI c)] (hp I A L O) Q := by
  refine call_of (by decide) rfl rfl ?_
  refine a_iload_n (i := 1) q61_0 rfl rfl ?_
  refine a_cs1 q61_1 rfl ⟨rfl, rfl⟩ rfl ?_
  refine c_X9_isColumn ?_
  refine ck_r ?_
  refine a_if_ne (tgt := 8) q61_4 (by decide) (fun zc4 => ?_) (fun zc4 => absurd zc4 (c_col hc))
  refine a_iconst (v := 0) q61_8 (by decide) ?_
  refine a_istore_n (i := 2) (lv' := [(0, _), (1, _), (2, _)]) q61_9 rfl rfl rfl ?_
  refine a_iconst (v := 0) q61_10 (by decide) ?_
  refine a_istore_n (i := 3) (lv' := [(0, _), (1, _), (2, _), (3, _)]) q61_11 rfl rfl rfl ?_
  refine a_lconst (v := 0) q61_12 (by decide) ?_
  refine a_lstore (i := 4) (lv' := [(0, _), (1, _), (2, _), (3, _), (4, _)]) q61_13 rfl rfl ?_
  refine a_lconst (v := 0) q61_15 (by decide) ?_
  refine a_lstore (i := 6) (lv' := [(0, _), (1, _), (2, _), (3, _), (4, _), (6, _)]) q61_16 rfl rfl ?_
  refine a_iconst (v := 1) q61_18 (by decide) ?_
  refine a_istore (i := 8) (lv' := [(0, _), (1, _), (2, _), (3, _), (4, _), (6, _), (8, _)]) q61_19 rfl rfl ?_
  refine a_sipush (v := (-10000)) q61_21 (by decide) ?_
  refine a_istore (i := 9) (lv' := [(0, _), (1, _), (2, _), (3, _), (4, _), (6, _), (8, _), (9, _)]) q61_24 rfl rfl ?_
  refine a_iconst (v := 0) q61_26 (by decide) ?_
  refine a_istore (i := 10) (lv' := [(0, _), (1, _), (2, _), (3, _), (4, _), (6, _), (8, _), (9, _), (10, _)]) q61_27 rfl rfl ?_
  exact l_study n hn hn40 hc (r := 0) (by omega) hq

def stA (A : Nat → Nat → Int32) (n : Nat) : Nat → Nat → Nat → Int32
  | 0 => A
  | c + 1 => studyA (stA A n c) c n
def stL (A : Nat → Nat → Int32) (L : Nat → Nat → Int64) (n : Nat) : Nat → Nat → Nat → Int64
  | 0 => L
  | c + 1 => studyL (stA A n c) (stL A L n c) c n
theorem c_X7_studyAll {X : XS} {I : Nat → Int32} {A : Nat → Nat → Int32} {L : Nat → Nat → Int64} {O : AH} {Q : AO → AH → Prop} {n : Nat} (hn : I 2 = nI n) (hn40 : n ≤ 40) (hq : Q (.inl none) (hp I (stA A n 6) (stL A L n 6) O)) : Call X 60 [.ref 2] (hp I A L O) Q := by
  refine call_of (by decide) rfl rfl ?_
  refine a_iconst (v := 0) q60_0 (by decide) ?_
  refine a_istore_n (i := 1) (lv' := [(0, _), (1, _)]) q60_1 rfl rfl rfl ?_
  refine a_iload_n (i := 1) q60_2 rfl rfl ?_
  refine a_bipush (v := 6) q60_3 (by decide) ?_
  refine a_icmp_ge (tgt := 19) q60_5 (by decide) (fun zc5 => absurd zc5 (by decide)) (fun zc5 => ?_)
  refine a_aload_n (i := 0) q60_8 rfl rfl ?_
  refine a_iload_n (i := 1) q60_9 rfl rfl ?_
  refine a_cv1 q60_10 rfl rfl ⟨rfl, rfl⟩ rfl ?_
  refine c_X7_study (c := 0) hn hn40 (by decide) ?_
  refine ck_v ?_
  refine a_iinc (lv' := [(0, _), (1, _)]) q60_13 rfl rfl rfl rfl ?_
  refine a_goto (tgt := 2) q60_16 (by decide) ?_
  refine a_iload_n (i := 1) q60_2 rfl rfl ?_
  refine a_bipush (v := 6) q60_3 (by decide) ?_
  refine a_icmp_ge (tgt := 19) q60_5 (by decide) (fun zc5_1 => absurd zc5_1 (by decide)) (fun zc5_1 => ?_)
  refine a_aload_n (i := 0) q60_8 rfl rfl ?_
  refine a_iload_n (i := 1) q60_9 rfl rfl ?_
  refine a_cv1 q60_10 rfl rfl ⟨rfl, rfl⟩ rfl ?_
  refine c_X7_study (c := 1) hn hn40 (by decide) ?_
  refine ck_v ?_
  refine a_iinc (lv' := [(0, _), (1, _)]) q60_13 rfl rfl rfl rfl ?_
  refine a_goto (tgt := 2) q60_16 (by decide) ?_
  refine a_iload_n (i := 1) q60_2 rfl rfl ?_
  refine a_bipush (v := 6) q60_3 (by decide) ?_
  refine a_icmp_ge (tgt := 19) q60_5 (by decide) (fun zc5_2 => absurd zc5_2 (by decide)) (fun zc5_2 => ?_)
  refine a_aload_n (i := 0) q60_8 rfl rfl ?_
  refine a_iload_n (i := 1) q60_9 rfl rfl ?_
  refine a_cv1 q60_10 rfl rfl ⟨rfl, rfl⟩ rfl ?_
  refine c_X7_study (c := 2) hn hn40 (by decide) ?_
  refine ck_v ?_
  refine a_iinc (lv' := [(0, _), (1, _)]) q60_13 rfl rfl rfl rfl ?_
  refine a_goto (tgt := 2) q60_16 (by decide) ?_
  refine a_iload_n (i := 1) q60_2 rfl rfl ?_
  refine a_bipush (v := 6) q60_3 (by decide) ?_
  refine a_icmp_ge (tgt := 19) q60_5 (by decide) (fun zc5_3 => absurd zc5_3 (by decide)) (fun zc5_3 => ?_)
  refine a_aload_n (i := 0) q60_8 rfl rfl ?_
  refine a_iload_n (i := 1) q60_9 rfl rfl ?_
  refine a_cv1 q60_10 rfl rfl ⟨rfl, rfl⟩ rfl ?_
  refine c_X7_study (c := 3) hn hn40 (by decide) ?_
  refine ck_v ?_
  refine a_iinc (lv' := [(0, _), (1, _)]) q60_13 rfl rfl rfl rfl ?_
  refine a_goto (tgt := 2) q60_16 (by decide) ?_
  refine a_iload_n (i := 1) q60_2 rfl rfl ?_
  refine a_bipush (v := 6) q60_3 (by decide) ?_
  refine a_icmp_ge (tgt := 19) q60_5 (by decide) (fun zc5_4 => absurd zc5_4 (by decide)) (fun zc5_4 => ?_)
  refine a_aload_n (i := 0) q60_8 rfl rfl ?_
  refine a_iload_n (i := 1) q60_9 rfl rfl ?_
  refine a_cv1 q60_10 rfl rfl ⟨rfl, rfl⟩ rfl ?_
  refine c_X7_study (c := 4) hn hn40 (by decide) ?_
  refine ck_v ?_
  refine a_iinc (lv' := [(0, _), (1, _)]) q60_13 rfl rfl rfl rfl ?_
  refine a_goto (tgt := 2) q60_16 (by decide) ?_
  refine a_iload_n (i := 1) q60_2 rfl rfl ?_
  refine a_bipush (v := 6) q60_3 (by decide) ?_
  refine a_icmp_ge (tgt := 19) q60_5 (by decide) (fun zc5_5 => absurd zc5_5 (by decide)) (fun zc5_5 => ?_)
  refine a_aload_n (i := 0) q60_8 rfl rfl ?_
  refine a_iload_n (i := 1) q60_9 rfl rfl ?_
  refine a_cv1 q60_10 rfl rfl ⟨rfl, rfl⟩ rfl ?_
  refine c_X7_study (c := 5) hn hn40 (by decide) ?_
  refine ck_v ?_
  refine a_iinc (lv' := [(0, _), (1, _)]) q60_13 rfl rfl rfl rfl ?_
  refine a_goto (tgt := 2) q60_16 (by decide) ?_
  refine a_iload_n (i := 1) q60_2 rfl rfl ?_
  refine a_bipush (v := 6) q60_3 (by decide) ?_
  refine a_icmp_ge (tgt := 19) q60_5 (by decide) (fun zc5_6 => ?_) (fun zc5_6 => absurd (by decide) zc5_6)
  refine a_return q60_19 rfl ?_
  exact hq

def apA (A : Nat → Nat → Int32) (n : Nat) (a b c d e f : Int32) : Nat → Nat → Int32 := st1 (st1 (st1 (st1 (st1 (st1 A 0 n a) 1 n b) 2 n c) 3 n d) 4 n e) 5 n f
theorem c_X7_append {X : XS} {I : Nat → Int32} {A : Nat → Nat → Int32} {L : Nat → Nat → Int64} {O : AH} {Q : AO → AH → Prop} {n : Nat} {a b c d e f : Int32} (hn : I 2 = nI n) (hn40 : n < 40) (hq : Q (.inl none) (hp (va_up I 2 (nI (n + 1))) (stA (apA A n a b c d e f) (n + 1) 6) (stL (apA A n a b c d e f) L (n + 1) 6) O)) : Call X 55 [.ref 2, .int a, .int b, .int c, .int d, .int e, .int f] (hp I A L O) Q := by
  refine call_of (by decide) rfl rfl ?_
  refine a_aload_n (i := 0) q55_0 rfl rfl ?_
  refine a_getfield q55_1 rfl rfl ?_
  refine a_bipush (v := 40) q55_4 (by decide) ?_
  refine a_icmp_lt (tgt := 10) q55_6 (by decide) (fun zc6 => ?_) (fun zc6 => absurd (by rw [hn]; exact nI_lt hn40 (by decide)) zc6)
  refine a_aload_n (i := 0) q55_10 rfl rfl ?_
  refine a_getfield q55_11 rfl rfl ?_
  refine AW.ti (hn) ?_
  refine a_istore (i := 7) (lv' := [(0, _), (1, _), (2, _), (3, _), (4, _), (5, _), (6, _), (7, _)]) q55_14 rfl rfl ?_
  refine a_aload_n (i := 0) q55_16 rfl rfl ?_
  refine a_dup q55_17 rfl ?_
  refine a_getfield q55_18 rfl rfl ?_
  refine a_iconst (v := 1) q55_21 (by decide) ?_
  refine a_iadd q55_22 ?_
  refine AW.ti (show I 2 + 1 = nI (n + 1) by rw [hn]; exact nI_1 n) ?_
  refine a_putfield q55_23 rfl rfl rfl rfl ?_
  refine AW.hp (h' := hp (va_up I 2 (nI (n + 1))) A L O) rfl ?_
  refine a_aload_n (i := 0) q55_26 rfl rfl ?_
  refine a_iload q55_27 rfl ?_
  refine a_iconst (v := 0) q55_29 (by decide) ?_
  refine a_iload_n (i := 1) q55_30 rfl rfl ?_
  refine a_cv3 q55_31 rfl rfl ⟨rfl, rfl⟩ rfl ?_
  refine c_X7_store_n (c := 0) (r := n) (n := n + 1) rfl (by omega) (by omega) (by decide) ?_
  refine ck_v ?_
  refine a_aload_n (i := 0) q55_34 rfl rfl ?_
  refine a_iload q55_35 rfl ?_
  refine a_iconst (v := 1) q55_37 (by decide) ?_
  refine a_iload_n (i := 2) q55_38 rfl rfl ?_
  refine a_cv3 q55_39 rfl rfl ⟨rfl, rfl⟩ rfl ?_
  refine c_X7_store_n (c := 1) (r := n) (n := n + 1) rfl (by omega) (by omega) (by decide) ?_
  refine ck_v ?_
  refine a_aload_n (i := 0) q55_42 rfl rfl ?_
  refine a_iload q55_43 rfl ?_
  refine a_iconst (v := 2) q55_45 (by decide) ?_
  refine a_iload_n (i := 3) q55_46 rfl rfl ?_
  refine a_cv3 q55_47 rfl rfl ⟨rfl, rfl⟩ rfl ?_
  refine c_X7_store_n (c := 2) (r := n) (n := n + 1) rfl (by omega) (by omega) (by decide) ?_
  refine ck_v ?_
  refine a_aload_n (i := 0) q55_50 rfl rfl ?_
  refine a_iload q55_51 rfl ?_
  refine a_iconst (v := 3) q55_53 (by decide) ?_
  refine a_iload q55_54 rfl ?_
  refine a_cv3 q55_56 rfl rfl ⟨rfl, rfl⟩ rfl ?_
  refine c_X7_store_n (c := 3) (r := n) (n := n + 1) rfl (by omega) (by omega) (by decide) ?_
  refine ck_v ?_
  refine a_aload_n (i := 0) q55_59 rfl rfl ?_
  refine a_iload q55_60 rfl ?_
  refine a_iconst (v := 4) q55_62 (by decide) ?_
  refine a_iload q55_63 rfl ?_
  refine a_cv3 q55_65 rfl rfl ⟨rfl, rfl⟩ rfl ?_
  refine c_X7_store_n (c := 4) (r := n) (n := n + 1) rfl (by omega) (by omega) (by decide) ?_
  refine ck_v ?_
  refine a_aload_n (i := 0) q55_68 rfl rfl ?_
  refine a_iload q55_69 rfl ?_
  refine a_iconst (v := 5) q55_71 (by decide) ?_
  refine a_iload q55_72 rfl ?_
  refine a_cv3 q55_74 rfl rfl ⟨rfl, rfl⟩ rfl ?_
  refine c_X7_store_n (c := 5) (r := n) (n := n + 1) rfl (by omega) (by omega) (by decide) ?_
  refine ck_v ?_
  refine a_aload_n (i := 0) q55_77 rfl rfl ?_
  refine a_cv0 q55_78 rfl rfl ⟨rfl, rfl⟩ rfl ?_
  refine c_X7_studyAll (n := n + 1) rfl (by omega) ?_
  refine ck_v ?_
  refine a_return q55_81 rfl ?_
  exact hq

def remC (A : Nat → Nat → Int32) (c : Nat) : Nat → Nat → Nat → Nat → Int32
  | _, 0 => A
  | r, m + 1 => remC (st1 A c r (cv A c (r + 1))) c (r + 1) m
def remT (A : Nat → Nat → Int32) (r m : Nat) : Nat → Nat → Nat → Int32
  | 0 => A
  | c + 1 => remC (remT A r m c) c r m
theorem l_remove (m : Nat) : ∀ {X : XS} {I : Nat → Int32} {A : Nat → Nat → Int32} {L : Nat → Nat → Int64} {O : AH} {Q : AO → AH → Prop} {c r n : Nat} {d : Int32} (hn : I 2 = nI (n + 1)) (hn40 : n < 40) (hc : c < 6) (hm : r + m = n) (hk : AW X 56 49 [(0, .ref 2), (1, .int d), (2, .int (nI c)), (3, .int (nI n))] [] (hp I (remC A c r m) L O) 0 0 Q), AW X 56 19 [(0, .ref 2), (1, .int d), (2, .int (nI c)), (3, .int (nI r))] [] (hp I A L O) 0 0 Q := by
  induction m with
  | zero =>
    intro X I A L O Q c r n d hn hn40 hc hm hk
    refine a_iload_n (i := 3) q56_19 rfl rfl ?_
    refine a_aload_n (i := 0) q56_20 rfl rfl ?_
    refine a_getfield q56_21 rfl rfl ?_
    refine a_iconst (v := 1) q56_24 (by decide) ?_
    refine a_isub q56_25 ?_
    refine AW.ti (show I 2 - 1 = nI n by rw [hn]; exact nI_pred n) ?_
    refine a_icmp_ge (tgt := 49) q56_26 (by decide) (fun zc26 => ?_) (fun zc26 => absurd (nI_le (show n ≤ r by omega) (by omega)) zc26)
    have zr : n = r := by omega
    subst zr
    exact hk
  | succ m ih =>
    intro X I A L O Q c r n d hn hn40 hc hm hk
    refine a_iload_n (i := 3) q56_19 rfl rfl ?_
    refine a_aload_n (i := 0) q56_20 rfl rfl ?_
    refine a_getfield q56_21 rfl rfl ?_
    refine a_iconst (v := 1) q56_24 (by decide) ?_
    refine a_isub q56_25 ?_
    refine AW.ti (show I 2 - 1 = nI n by rw [hn]; exact nI_pred n) ?_
    refine a_icmp_ge (tgt := 49) q56_26 (by decide) (fun zc26 => absurd zc26 (nI_ge (show r < n by omega) (by omega))) (fun zc26 => ?_)
    refine a_aload_n (i := 0) q56_29 rfl rfl ?_
    refine a_iload_n (i := 3) q56_30 rfl rfl ?_
    refine a_iload_n (i := 2) q56_31 rfl rfl ?_
    refine a_aload_n (i := 0) q56_32 rfl rfl ?_
    refine a_iload_n (i := 3) q56_33 rfl rfl ?_
    refine a_iconst (v := 1) q56_34 (by decide) ?_
    refine a_iadd q56_35 ?_
    refine AW.ti (nI_1 r) ?_
    refine a_iload_n (i := 2) q56_36 rfl rfl ?_
    refine a_cv2 q56_37 rfl rfl ⟨rfl, rfl⟩ rfl ?_
    refine c_X7_valueAt_n (r := r + 1) hn (by omega) (by omega) hc ?_
    refine ck_r ?_
    refine a_cv3 q56_40 rfl rfl ⟨rfl, rfl⟩ rfl ?_
    refine c_X7_store_n hn (by omega) (by omega) hc ?_
    refine ck_v ?_
    refine a_iinc (v := nI (r + 1)) (lv' := [(0, _), (1, _), (2, _), (3, _)]) q56_43 rfl rfl (nI_1 (r)) rfl ?_
    refine a_goto (tgt := 19) q56_46 (by decide) ?_
    exact ih hn hn40 hc (show r + 1 + m = n by omega) hk

theorem c_X7_remove {X : XS} {I : Nat → Int32} {A : Nat → Nat → Int32} {L : Nat → Nat → Int64} {O : AH} {Q : AO → AH → Prop} {n r : Nat} (hn : I 2 = nI (n + 1)) (hn40 : n < 40) (hr : r ≤ n) (hq : Q (.inl none) (hp (va_up I 2 (nI n)) (stA (remT A r (n - r) 6) n 6) (stL (remT A r (n - r) 6) L n 6) O)) : Call X 56 [.ref 2, .int (nI r)] (hp I A L O) Q := by
  refine call_of (by decide) rfl rfl ?_
  refine a_aload_n (i := 0) q56_0 rfl rfl ?_
  refine a_iload_n (i := 1) q56_1 rfl rfl ?_
  refine a_cv1 q56_2 rfl rfl ⟨rfl, rfl⟩ rfl ?_
  refine c_X7_hasRow ?_
  refine ck_r ?_
  refine a_if_ne (tgt := 9) q56_5 (by decide) (fun zc5 => ?_) (fun zc5 => absurd zc5 (r_row (r := r) hn (by omega) (by omega)))
  refine a_iconst (v := 0) q56_9 (by decide) ?_
  refine a_istore_n (i := 2) (lv' := [(0, _), (1, _), (2, _)]) q56_10 rfl rfl rfl ?_
  refine a_iload_n (i := 2) q56_11 rfl rfl ?_
  refine a_bipush (v := 6) q56_12 (by decide) ?_
  refine a_icmp_ge (tgt := 55) q56_14 (by decide) (fun zc14 => absurd zc14 (by decide)) (fun zc14 => ?_)
  refine a_iload_n (i := 1) q56_17 rfl rfl ?_
  refine a_istore_n (i := 3) (lv' := [(0, _), (1, _), (2, _), (3, _)]) q56_18 rfl rfl rfl ?_
  refine l_remove (n - r) (c := 0) (r := r) (n := n) hn hn40 (by decide) (by omega) ?_
  refine a_iinc (lv' := [(0, _), (1, _), (2, _), (3, _)]) q56_49 rfl rfl rfl rfl ?_
  refine a_goto (tgt := 11) q56_52 (by decide) ?_
  refine a_iload_n (i := 2) q56_11 rfl rfl ?_
  refine a_bipush (v := 6) q56_12 (by decide) ?_
  refine a_icmp_ge (tgt := 55) q56_14 (by decide) (fun zc14_1 => absurd zc14_1 (by decide)) (fun zc14_1 => ?_)
  refine a_iload_n (i := 1) q56_17 rfl rfl ?_
  refine a_istore_n (i := 3) (lv' := [(0, _), (1, _), (2, _), (3, _)]) q56_18 rfl rfl rfl ?_
  refine l_remove (n - r) (c := 1) (r := r) (n := n) hn hn40 (by decide) (by omega) ?_
  refine a_iinc (lv' := [(0, _), (1, _), (2, _), (3, _)]) q56_49 rfl rfl rfl rfl ?_
  refine a_goto (tgt := 11) q56_52 (by decide) ?_
  refine a_iload_n (i := 2) q56_11 rfl rfl ?_
  refine a_bipush (v := 6) q56_12 (by decide) ?_
  refine a_icmp_ge (tgt := 55) q56_14 (by decide) (fun zc14_2 => absurd zc14_2 (by decide)) (fun zc14_2 => ?_)
  refine a_iload_n (i := 1) q56_17 rfl rfl ?_
  refine a_istore_n (i := 3) (lv' := [(0, _), (1, _), (2, _), (3, _)]) q56_18 rfl rfl rfl ?_
  refine l_remove (n - r) (c := 2) (r := r) (n := n) hn hn40 (by decide) (by omega) ?_
  refine a_iinc (lv' := [(0, _), (1, _), (2, _), (3, _)]) q56_49 rfl rfl rfl rfl ?_
  refine a_goto (tgt := 11) q56_52 (by decide) ?_
  refine a_iload_n (i := 2) q56_11 rfl rfl ?_
  refine a_bipush (v := 6) q56_12 (by decide) ?_
  refine a_icmp_ge (tgt := 55) q56_14 (by decide) (fun zc14_3 => absurd zc14_3 (by decide)) (fun zc14_3 => ?_)
  refine a_iload_n (i := 1) q56_17 rfl rfl ?_
  refine a_istore_n (i := 3) (lv' := [(0, _), (1, _), (2, _), (3, _)]) q56_18 rfl rfl rfl ?_
  refine l_remove (n - r) (c := 3) (r := r) (n := n) hn hn40 (by decide) (by omega) ?_
  refine a_iinc (lv' := [(0, _), (1, _), (2, _), (3, _)]) q56_49 rfl rfl rfl rfl ?_
  refine a_goto (tgt := 11) q56_52 (by decide) ?_
  refine a_iload_n (i := 2) q56_11 rfl rfl ?_
  refine a_bipush (v := 6) q56_12 (by decide) ?_
  refine a_icmp_ge (tgt := 55) q56_14 (by decide) (fun zc14_4 => absurd zc14_4 (by decide)) (fun zc14_4 => ?_)
  refine a_iload_n (i := 1) q56_17 rfl rfl ?_
  refine a_istore_n (i := 3) (lv' := [(0, _), (1, _), (2, _), (3, _)]) q56_18 rfl rfl rfl ?_
  refine l_remove (n - r) (c := 4) (r := r) (n := n) hn hn40 (by decide) (by omega) ?_
  refine a_iinc (lv' := [(0, _), (1, _), (2, _), (3, _)]) q56_49 rfl rfl rfl rfl ?_
  refine a_goto (tgt := 11) q56_52 (by decide) ?_
  refine a_iload_n (i := 2) q56_11 rfl rfl ?_
  refine a_bipush (v := 6) q56_12 (by decide) ?_
  refine a_icmp_ge (tgt := 55) q56_14 (by decide) (fun zc14_5 => absurd zc14_5 (by decide)) (fun zc14_5 => ?_)
  refine a_iload_n (i := 1) q56_17 rfl rfl ?_
  refine a_istore_n (i := 3) (lv' := [(0, _), (1, _), (2, _), (3, _)]) q56_18 rfl rfl rfl ?_
  refine l_remove (n - r) (c := 5) (r := r) (n := n) hn hn40 (by decide) (by omega) ?_
  refine a_iinc (lv' := [(0, _), (1, _), (2, _), (3, _)]) q56_49 rfl rfl rfl rfl ?_
  refine a_goto (tgt := 11) q56_52 (by decide) ?_
  refine a_iload_n (i := 2) q56_11 rfl rfl ?_
  refine a_bipush (v := 6) q56_12 (by decide) ?_
  refine a_icmp_ge (tgt := 55) q56_14 (by decide) (fun zc14_6 => ?_) (fun zc14_6 => absurd (by decide) zc14_6)
  refine a_aload_n (i := 0) q56_55 rfl rfl ?_
  refine a_dup q56_56 rfl ?_
  refine a_getfield q56_57 rfl rfl ?_
  refine a_iconst (v := 1) q56_60 (by decide) ?_
  refine a_isub q56_61 ?_
  refine AW.ti (show I 2 - 1 = nI n by rw [hn]; exact nI_pred n) ?_
  refine a_putfield q56_62 rfl rfl rfl rfl ?_
  refine AW.hp (h' := hp (va_up I 2 (nI n)) (remT A r (n - r) 6) L O) rfl ?_
  refine a_aload_n (i := 0) q56_65 rfl rfl ?_
  refine a_cv0 q56_66 rfl rfl ⟨rfl, rfl⟩ rfl ?_
  refine c_X7_studyAll (n := n) rfl (by omega) ?_
  refine ck_v ?_
  refine a_return q56_69 rfl ?_
  exact hq

theorem c_X7_change {X : XS} {I : Nat → Int32} {A : Nat → Nat → Int32} {L : Nat → Nat → Int64} {O : AH} {Q : AO → AH → Prop} {c r n : Nat} (hn : I 2 = nI n) (hn40 : n ≤ 40) (hr : r < n) (hc : c < 6) {v : Int32} (hq : Q (.inl none) (hp I (studyA (st1 A c r v) c n) (studyL (st1 A c r v) L c n) O)) : Call X 57 [.ref 2, .int (nI r), .int (nI c), .int v] (hp I A L O) Q := by
  refine call_of (by decide) rfl rfl ?_
  refine a_aload_n (i := 0) q57_0 rfl rfl ?_
  refine a_iload_n (i := 1) q57_1 rfl rfl ?_
  refine a_iload_n (i := 2) q57_2 rfl rfl ?_
  refine a_iload_n (i := 3) q57_3 rfl rfl ?_
  refine a_cv3 q57_4 rfl rfl ⟨rfl, rfl⟩ rfl ?_
  refine c_X7_store_n hn hn40 hr hc ?_
  refine ck_v ?_
  refine a_aload_n (i := 0) q57_7 rfl rfl ?_
  refine a_iload_n (i := 2) q57_8 rfl rfl ?_
  refine a_cv1 q57_9 rfl rfl ⟨rfl, rfl⟩ rfl ?_
  refine c_X7_study hn hn40 hc ?_
  refine ck_v ?_
  refine a_return q57_12 rfl ?_
  exact hq

theorem c_X7_setForcedKind {X : XS} {I : Nat → Int32} {A : Nat → Nat → Int32} {L : Nat → Nat → Int64} {O : AH} {Q : AO → AH → Prop} {c n : Nat} {k : Int32} (hn : I 2 = nI n) (hn40 : n ≤ 40) (hc : c < 6) (hq : Q (.inl none) (hp I (studyA (va_up A 3 (upd (A 3) c k)) c n) (studyL (va_up A 3 (upd (A 3) c k)) L c n) O)) : Call X 58 [.ref 2, .int (nI c), .int k] (hp I A L O) Q := by
  refine call_of (by decide) rfl rfl ?_
  refine a_iload_n (i := 1) q58_0 rfl rfl ?_
  refine a_cs1 q58_1 rfl ⟨rfl, rfl⟩ rfl ?_
  refine c_X9_isColumn ?_
  refine ck_r ?_
  refine a_if_eq (tgt := 19) q58_4 (by decide) (fun zc4 => absurd zc4 (c_col hc)) (fun zc4 => ?_)
  refine a_aload_n (i := 0) q58_7 rfl rfl ?_
  refine a_getfield q58_8 rfl rfl ?_
  refine a_iload_n (i := 1) q58_11 rfl rfl ?_
  refine a_iload_n (i := 2) q58_12 rfl rfl ?_
  refine a_iast' q58_13 rfl (j := c) rfl hc (by decide) (h' := hp I (va_up A 3 (upd (A 3) c k)) L O) rfl ?_
  refine a_aload_n (i := 0) q58_14 rfl rfl ?_
  refine a_iload_n (i := 1) q58_15 rfl rfl ?_
  refine a_cv1 q58_16 rfl rfl ⟨rfl, rfl⟩ rfl ?_
  refine c_X7_study hn hn40 hc ?_
  refine ck_v ?_
  refine a_return q58_19 rfl ?_
  exact hq

def usC (f : Nat → Int32) : Nat → Int32
  | 0 => 0
  | k + 1 => if f k = 0 ∨ f k = 1 then usC f k else usC f k + 1
theorem l_usable (m : Nat) : ∀ {X : XS} {I : Nat → Int32} {A : Nat → Nat → Int32} {L : Nat → Nat → Int64} {O : AH} {Q : AO → AH → Prop} {k : Nat} (hm : k + m = 6) (hq : Q (.inl (some (.int (usC (A 4) 6)))) (hp I A L O)), AW X 54 4 [(0, .ref 2), (1, .int (usC (A 4) k)), (2, .int (nI k))] [] (hp I A L O) 0 0 Q := by
  induction m with
  | zero =>
    intro X I A L O Q k hm hq
    refine a_iload_n (i := 2) q54_4 rfl rfl ?_
    refine a_bipush (v := 6) q54_5 (by decide) ?_
    refine a_icmp_ge (tgt := 31) q54_7 (by decide) (fun zc7 => ?_) (fun zc7 => absurd (nI_le (show 6 ≤ k by omega) (by omega)) zc7)
    refine a_iload_n (i := 1) q54_31 rfl rfl ?_
    refine a_ireturn q54_32 (nr_int rfl _) ?_
    have zr : k = 6 := by omega
    subst zr
    exact hq
  | succ m ih =>
    intro X I A L O Q k hm hq
    refine a_iload_n (i := 2) q54_4 rfl rfl ?_
    refine a_bipush (v := 6) q54_5 (by decide) ?_
    refine a_icmp_ge (tgt := 31) q54_7 (by decide) (fun zc7 => absurd zc7 (nI_ge (show k < 6 by omega) (by decide))) (fun zc7 => ?_)
    refine a_aload_n (i := 0) q54_10 rfl rfl ?_
    refine a_getfield q54_11 rfl rfl ?_
    refine a_iload_n (i := 2) q54_14 rfl rfl ?_
    refine a_iald' q54_15 rfl (j := k) rfl (by omega) (by decide) ?_
    refine a_cs1 q54_16 rfl ⟨rfl, rfl⟩ rfl ?_
    refine c_X7_isDullKind ?_
    refine ck_r ?_
    refine a_if_ne (tgt := 25) q54_19 (by decide) (fun zc19 => ?_) (fun zc19 => ?_)
    · skip
      refine a_iinc (v := nI (k + 1)) (lv' := [(0, _), (1, _), (2, _)]) q54_25 rfl rfl (nI_1 (k)) rfl ?_
      refine a_goto (tgt := 4) q54_28 (by decide) ?_
      have zi := ih (X := X) (show k + 1 + m = 6 by omega) hq
      simp only [usC, if_pos (b2i_nz.mp zc19)] at zi
      exact zi
    · skip
      refine a_iinc (lv' := [(0, _), (1, _), (2, _)]) q54_22 rfl rfl rfl rfl ?_
      refine a_iinc (v := nI (k + 1)) (lv' := [(0, _), (1, _), (2, _)]) q54_25 rfl rfl (nI_1 (k)) rfl ?_
      refine a_goto (tgt := 4) q54_28 (by decide) ?_
      have zi := ih (X := X) (show k + 1 + m = 6 by omega) hq
      simp only [usC, if_neg (b2i_z.mp zc19)] at zi
      exact zi

theorem c_X7_usableColumns {X : XS} {I : Nat → Int32} {A : Nat → Nat → Int32} {L : Nat → Nat → Int64} {O : AH} {Q : AO → AH → Prop}  (hq : Q (.inl (some (.int (usC (A 4) 6)))) (hp I A L O)) : Call X 54 [.ref 2] (hp I A L O) Q := by
  refine call_of (by decide) rfl rfl ?_
  refine a_iconst (v := 0) q54_0 (by decide) ?_
  refine a_istore_n (i := 1) (lv' := [(0, _), (1, _)]) q54_1 rfl rfl rfl ?_
  refine a_iconst (v := 0) q54_2 (by decide) ?_
  refine a_istore_n (i := 2) (lv' := [(0, _), (1, _), (2, _)]) q54_3 rfl rfl rfl ?_
  exact l_usable 6 (k := 0) rfl hq
