/-! the law's cost -/
def addL (w : Nat → Int32) (s : Int32) : Nat → Nat → Int32 → Int32
  | 0, _, acc => acc
  | m + 1, k, acc => addL w s m (k + 1) (acc + ((s >>> (nI k &&& 31)) &&& 1) * w k)
theorem nI_r {x : Int32} (h : 0 ≤ x ∧ x ≤ 4) : ∃ q, q ≤ 4 ∧ x = nI q := nI_of2 (M := 4) (n := 4) rfl (i_nlt.mpr h.1) h.2
theorem lak4 {p q r s : Prop} [Decidable p] [Decidable q] [Decidable r] [Decidable s] : (((((0 : Int32) + b2i p) + b2i q) + b2i r) + b2i s) ≤ 0 ↔ ¬ (((p ∨ q) ∨ r) ∨ s) := by
  by_cases h1 : p <;> by_cases h2 : q <;> by_cases h3 : r <;> by_cases h4 : s <;> simp [h1, h2, h3, h4, b2i]
theorem gap_s (A : Nat → Nat → Int32) (f : Nat → Int32) (r : Nat) : m_gap A f r + b2i (m_gp A f r) = m_gap A f (r + 1) := by
  rw [m_gap]
  by_cases h : m_gp A f r
  · rw [if_pos h, b2i_t h]
  · rw [if_neg h, b2i_f h]
theorem l_cw (m : Nat) : ∀ {X : XS} {I : Nat → Int32} {A : Nat → Nat → Int32} {L : Nat → Nat → Int64} {Q : AO → AH → Prop} {K : Nat → Int32} {B : Nat → Int64} {C : Nat → Int32} {T : Nat → Int32} {S acc : Int32} {k : Nat} (hm : k + m = 8) (kk : AW X 142 166 [(0, .ref 0), (1, .ref 22), (2, .ref 24), (3, .ref 25), (4, .int (addL (VB A K 24) S m k acc)), (5, .int S), (6, .int (nI 8))] [] (hp I A L [kc K, lc B, cc C, kc T]) 0 0 Q), AW X 142 133 [(0, .ref 0), (1, .ref 22), (2, .ref 24), (3, .ref 25), (4, .int acc), (5, .int S), (6, .int (nI k))] [] (hp I A L [kc K, lc B, cc C, kc T]) 0 0 Q := by
  induction m with
  | zero =>
    intro X I A L Q K B C T S acc k hm kk
    refine a_iload q142_133 rfl ?_
    refine a_bipush (v := 8) q142_135 (by decide) ?_
    refine a_icmp_ge (tgt := 166) q142_137 (by decide) (fun zc137 => ?_) (fun zc137 => absurd (nI_le (show 8 ≤ k by omega) (by omega)) zc137)
    have e : k = 8 := by omega
    subst e; exact kk
  | succ m ih =>
    intro X I A L Q K B C T S acc k hm kk
    refine a_iload q142_133 rfl ?_
    refine a_bipush (v := 8) q142_135 (by decide) ?_
    refine a_icmp_ge (tgt := 166) q142_137 (by decide) (fun zc137 => absurd zc137 (nI_ge (show k < 8 by omega) (by decide))) (fun zc137 => ?_)
    refine a_iload q142_140 rfl ?_
    refine a_iload q142_142 rfl ?_
    refine a_iload q142_144 rfl ?_
    refine a_ishr q142_146 ?_
    refine a_iconst (v := 1) q142_147 (by decide) ?_
    refine a_iand q142_148 ?_
    refine a_aload_n (i := 0) q142_149 rfl rfl ?_
    refine a_bipush (v := 20) q142_150 (by decide) ?_
    refine a_iload q142_152 rfl ?_
    refine a_iadd q142_154 ?_
    refine a_iald' q142_155 rfl (j := 20 + k) (nI_add 20 k) (by omega) (by decide) ?_
    refine a_imul q142_156 ?_
    refine a_iadd q142_157 ?_
    refine a_istore (i := 4) (lv' := [(0, _), (1, _), (2, _), (3, _), (4, _), (5, _), (6, _)]) q142_158 rfl rfl ?_
    refine a_iinc (v := nI (k + 1)) (lv' := [(0, _), (1, _), (2, _), (3, _), (4, _), (5, _), (6, _)]) q142_160 rfl rfl (nI_1 (k)) rfl ?_
    refine a_goto (tgt := 133) q142_163 (by decide) ?_
    exact ih (show k + 1 + m = 8 by omega) kk

theorem l_cg (m : Nat) : ∀ {X : XS} {I : Nat → Int32} {A : Nat → Nat → Int32} {L : Nat → Nat → Int64} {Q : AO → AH → Prop} {K : Nat → Int32} {B : Nat → Int64} {C : Nat → Int32} {T : Nat → Int32} {S acc : Int32} {n r m0 a s0 s1 s2 s3 : Nat} (hn : A 30 0 = nI n) (hn40 : n ≤ 40) (hd : dgt m0 a s0 s1 s2 s3) (hf : digF C m0 a s0 s1 s2 s3) (hm : r + m = n) (kk : AW X 142 253 [(0, .ref 0), (1, .ref 22), (2, .ref 24), (3, .ref 25), (4, .int acc), (5, .int S), (6, .int (m_gap (VB A K) C n)), (7, .int (nI n))] [] (hp I A L [kc K, lc B, cc C, kc T]) 0 0 Q), AW X 142 172 [(0, .ref 0), (1, .ref 22), (2, .ref 24), (3, .ref 25), (4, .int acc), (5, .int S), (6, .int (m_gap (VB A K) C r)), (7, .int (nI r))] [] (hp I A L [kc K, lc B, cc C, kc T]) 0 0 Q := by
  induction m with
  | zero =>
    intro X I A L Q K B C T S acc n r m0 a s0 s1 s2 s3 hn hn40 hd hf hm kk
    refine a_iload q142_172 rfl ?_
    refine a_aload_n (i := 0) q142_174 rfl rfl ?_
    refine a_iconst (v := 0) q142_175 (by decide) ?_
    refine a_iald' q142_176 rfl (j := 0) rfl (by decide) (by decide) ?_
    refine AW.ti hn ?_
    refine a_icmp_ge (tgt := 253) q142_177 (by decide) (fun zc177 => ?_) (fun zc177 => absurd (nI_le (show n ≤ r by omega) (by omega)) zc177)
    have e : r = n := by omega
    subst e; exact kk
  | succ m ih =>
    intro X I A L Q K B C T S acc n r m0 a s0 s1 s2 s3 hn hn40 hd hf hm kk
    refine a_iload q142_172 rfl ?_
    refine a_aload_n (i := 0) q142_174 rfl rfl ?_
    refine a_iconst (v := 0) q142_175 (by decide) ?_
    refine a_iald' q142_176 rfl (j := 0) rfl (by decide) (by decide) ?_
    refine AW.ti hn ?_
    refine a_icmp_ge (tgt := 253) q142_177 (by decide) (fun zc177 => absurd zc177 (nI_ge (show r < n by omega) (by omega))) (fun zc177 => ?_)
    refine a_iconst (v := 0) q142_180 (by decide) ?_
    refine a_istore (i := 8) (lv' := [(0, _), (1, _), (2, _), (3, _), (4, _), (5, _), (6, _), (7, _), (8, _)]) q142_181 rfl rfl ?_
    refine a_iconst (v := 2) q142_183 (by decide) ?_
    refine a_istore (i := 9) (lv' := [(0, _), (1, _), (2, _), (3, _), (4, _), (5, _), (6, _), (7, _), (8, _), (9, _)]) q142_184 rfl rfl ?_
    refine a_iload q142_186 rfl ?_
    refine a_bipush (v := 6) q142_188 (by decide) ?_
    refine a_icmp_ge (tgt := 232) q142_190 (by decide) (fun zc190 => absurd zc190 (by decide)) (fun zc190 => ?_)
    refine a_iload q142_193 rfl ?_
    refine AW.cut 223 (b2i (m_gk (VB A K) C r 0)) (fun zk223 => ?_) ?_
    · skip
      refine a_aload_n (i := 2) q142_195 rfl rfl ?_
      refine a_iload q142_196 rfl ?_
      refine a_iald' q142_198 rfl (j := 2) rfl (by decide) (by decide) ?_
      refine AW.ti hf.2.2.1 ?_
      refine a_if_lt (tgt := 222) q142_199 (by decide) (fun zc199 => ?_) (fun zc199 => ?_)
      · skip
        refine a_iconst (v := 0) q142_222 (by decide) ?_
        exact cutv zk223 (b2i_f (fun zz => absurd zz.1 (by rw [show C (2 + 0) = xI s0 from hf.2.2.1, xI_ge hd.2.2.1]; exact fun y => y ((xI_neg hd.2.2.1).mp zc199))))
      · skip
        have zs : ¬ s0 = 0 := fun zz => zc199 ((xI_neg hd.2.2.1).mpr zz)
        refine a_aload_n (i := 0) q142_202 rfl rfl ?_
        refine a_iload q142_203 rfl ?_
        refine a_aload_n (i := 2) q142_205 rfl rfl ?_
        refine a_iload q142_206 rfl ?_
        refine a_iald' q142_208 rfl (j := 2) rfl (by decide) (by decide) ?_
        refine AW.ti (hf.2.2.1.trans (xI_e zs)) ?_
        refine a_cs3 q142_209 rfl ⟨rfl, rfl⟩ rfl ?_
        refine c_L_value (show r < 40 by omega) (show _ - 1 < 6 by have := hd; unfold dgt at this; omega) ?_
        refine ck_r ?_
        refine a_sipush (v := (-10000)) q142_212 (by decide) ?_
        refine a_icmp_ne (tgt := 222) q142_215 (by decide) (fun zc215 => ?_) (fun zc215 => ?_)
        · skip
          refine a_iconst (v := 0) q142_222 (by decide) ?_
          exact cutv zk223 (b2i_f (fun zz => zc215 ((show VB A K 22 (6 * r + (C (2 + 0)).toNatClampNeg) = nv A (s0 - 1) r by rw [show C (2 + 0) = xI s0 from hf.2.2.1, xI_cl hd.2.2.1 zs]; rfl).symm.trans zz.2)))
        · skip
          refine a_iconst (v := 1) q142_218 (by decide) ?_
          refine a_goto (tgt := 223) q142_219 (by decide) ?_
          exact cutv zk223 (b2i_t ⟨by rw [show C (2 + 0) = xI s0 from hf.2.2.1, xI_ge hd.2.2.1]; exact zs, (show VB A K 22 (6 * r + (C (2 + 0)).toNatClampNeg) = nv A (s0 - 1) r by rw [show C (2 + 0) = xI s0 from hf.2.2.1, xI_cl hd.2.2.1 zs]; rfl).trans zc215⟩)
    refine a_iadd q142_223 ?_
    refine a_istore (i := 8) (lv' := [(0, _), (1, _), (2, _), (3, _), (4, _), (5, _), (6, _), (7, _), (8, _), (9, _)]) q142_224 rfl rfl ?_
    refine a_iinc (v := nI (2 + 1)) (lv' := [(0, _), (1, _), (2, _), (3, _), (4, _), (5, _), (6, _), (7, _), (8, _), (9, _)]) q142_226 rfl rfl (nI_1 (2)) rfl ?_
    refine a_goto (tgt := 186) q142_229 (by decide) ?_
    refine a_iload q142_186 rfl ?_
    refine a_bipush (v := 6) q142_188 (by decide) ?_
    refine a_icmp_ge (tgt := 232) q142_190 (by decide) (fun zc190_1 => absurd zc190_1 (by decide)) (fun zc190_1 => ?_)
    refine a_iload q142_193 rfl ?_
    refine AW.cut 223 (b2i (m_gk (VB A K) C r 1)) (fun zk223 => ?_) ?_
    · skip
      refine a_aload_n (i := 2) q142_195 rfl rfl ?_
      refine a_iload q142_196 rfl ?_
      refine a_iald' q142_198 rfl (j := 3) rfl (by decide) (by decide) ?_
      refine AW.ti hf.2.2.2.1 ?_
      refine a_if_lt (tgt := 222) q142_199 (by decide) (fun zc199 => ?_) (fun zc199 => ?_)
      · skip
        refine a_iconst (v := 0) q142_222 (by decide) ?_
        exact cutv zk223 (b2i_f (fun zz => absurd zz.1 (by rw [show C (2 + 1) = xI s1 from hf.2.2.2.1, xI_ge hd.2.2.2.1]; exact fun y => y ((xI_neg hd.2.2.2.1).mp zc199))))
      · skip
        have zs : ¬ s1 = 0 := fun zz => zc199 ((xI_neg hd.2.2.2.1).mpr zz)
        refine a_aload_n (i := 0) q142_202 rfl rfl ?_
        refine a_iload q142_203 rfl ?_
        refine a_aload_n (i := 2) q142_205 rfl rfl ?_
        refine a_iload q142_206 rfl ?_
        refine a_iald' q142_208 rfl (j := 3) rfl (by decide) (by decide) ?_
        refine AW.ti (hf.2.2.2.1.trans (xI_e zs)) ?_
        refine a_cs3 q142_209 rfl ⟨rfl, rfl⟩ rfl ?_
        refine c_L_value (show r < 40 by omega) (show _ - 1 < 6 by have := hd; unfold dgt at this; omega) ?_
        refine ck_r ?_
        refine a_sipush (v := (-10000)) q142_212 (by decide) ?_
        refine a_icmp_ne (tgt := 222) q142_215 (by decide) (fun zc215 => ?_) (fun zc215 => ?_)
        · skip
          refine a_iconst (v := 0) q142_222 (by decide) ?_
          exact cutv zk223 (b2i_f (fun zz => zc215 ((show VB A K 22 (6 * r + (C (2 + 1)).toNatClampNeg) = nv A (s1 - 1) r by rw [show C (2 + 1) = xI s1 from hf.2.2.2.1, xI_cl hd.2.2.2.1 zs]; rfl).symm.trans zz.2)))
        · skip
          refine a_iconst (v := 1) q142_218 (by decide) ?_
          refine a_goto (tgt := 223) q142_219 (by decide) ?_
          exact cutv zk223 (b2i_t ⟨by rw [show C (2 + 1) = xI s1 from hf.2.2.2.1, xI_ge hd.2.2.2.1]; exact zs, (show VB A K 22 (6 * r + (C (2 + 1)).toNatClampNeg) = nv A (s1 - 1) r by rw [show C (2 + 1) = xI s1 from hf.2.2.2.1, xI_cl hd.2.2.2.1 zs]; rfl).trans zc215⟩)
    refine a_iadd q142_223 ?_
    refine a_istore (i := 8) (lv' := [(0, _), (1, _), (2, _), (3, _), (4, _), (5, _), (6, _), (7, _), (8, _), (9, _)]) q142_224 rfl rfl ?_
    refine a_iinc (v := nI (3 + 1)) (lv' := [(0, _), (1, _), (2, _), (3, _), (4, _), (5, _), (6, _), (7, _), (8, _), (9, _)]) q142_226 rfl rfl (nI_1 (3)) rfl ?_
    refine a_goto (tgt := 186) q142_229 (by decide) ?_
    refine a_iload q142_186 rfl ?_
    refine a_bipush (v := 6) q142_188 (by decide) ?_
    refine a_icmp_ge (tgt := 232) q142_190 (by decide) (fun zc190_2 => absurd zc190_2 (by decide)) (fun zc190_2 => ?_)
    refine a_iload q142_193 rfl ?_
    refine AW.cut 223 (b2i (m_gk (VB A K) C r 2)) (fun zk223 => ?_) ?_
    · skip
      refine a_aload_n (i := 2) q142_195 rfl rfl ?_
      refine a_iload q142_196 rfl ?_
      refine a_iald' q142_198 rfl (j := 4) rfl (by decide) (by decide) ?_
      refine AW.ti hf.2.2.2.2.1 ?_
      refine a_if_lt (tgt := 222) q142_199 (by decide) (fun zc199 => ?_) (fun zc199 => ?_)
      · skip
        refine a_iconst (v := 0) q142_222 (by decide) ?_
        exact cutv zk223 (b2i_f (fun zz => absurd zz.1 (by rw [show C (2 + 2) = xI s2 from hf.2.2.2.2.1, xI_ge hd.2.2.2.2.1]; exact fun y => y ((xI_neg hd.2.2.2.2.1).mp zc199))))
      · skip
        have zs : ¬ s2 = 0 := fun zz => zc199 ((xI_neg hd.2.2.2.2.1).mpr zz)
        refine a_aload_n (i := 0) q142_202 rfl rfl ?_
        refine a_iload q142_203 rfl ?_
        refine a_aload_n (i := 2) q142_205 rfl rfl ?_
        refine a_iload q142_206 rfl ?_
        refine a_iald' q142_208 rfl (j := 4) rfl (by decide) (by decide) ?_
        refine AW.ti (hf.2.2.2.2.1.trans (xI_e zs)) ?_
        refine a_cs3 q142_209 rfl ⟨rfl, rfl⟩ rfl ?_
        refine c_L_value (show r < 40 by omega) (show _ - 1 < 6 by have := hd; unfold dgt at this; omega) ?_
        refine ck_r ?_
        refine a_sipush (v := (-10000)) q142_212 (by decide) ?_
        refine a_icmp_ne (tgt := 222) q142_215 (by decide) (fun zc215 => ?_) (fun zc215 => ?_)
        · skip
          refine a_iconst (v := 0) q142_222 (by decide) ?_
          exact cutv zk223 (b2i_f (fun zz => zc215 ((show VB A K 22 (6 * r + (C (2 + 2)).toNatClampNeg) = nv A (s2 - 1) r by rw [show C (2 + 2) = xI s2 from hf.2.2.2.2.1, xI_cl hd.2.2.2.2.1 zs]; rfl).symm.trans zz.2)))
        · skip
          refine a_iconst (v := 1) q142_218 (by decide) ?_
          refine a_goto (tgt := 223) q142_219 (by decide) ?_
          exact cutv zk223 (b2i_t ⟨by rw [show C (2 + 2) = xI s2 from hf.2.2.2.2.1, xI_ge hd.2.2.2.2.1]; exact zs, (show VB A K 22 (6 * r + (C (2 + 2)).toNatClampNeg) = nv A (s2 - 1) r by rw [show C (2 + 2) = xI s2 from hf.2.2.2.2.1, xI_cl hd.2.2.2.2.1 zs]; rfl).trans zc215⟩)
    refine a_iadd q142_223 ?_
    refine a_istore (i := 8) (lv' := [(0, _), (1, _), (2, _), (3, _), (4, _), (5, _), (6, _), (7, _), (8, _), (9, _)]) q142_224 rfl rfl ?_
    refine a_iinc (v := nI (4 + 1)) (lv' := [(0, _), (1, _), (2, _), (3, _), (4, _), (5, _), (6, _), (7, _), (8, _), (9, _)]) q142_226 rfl rfl (nI_1 (4)) rfl ?_
    refine a_goto (tgt := 186) q142_229 (by decide) ?_
    refine a_iload q142_186 rfl ?_
    refine a_bipush (v := 6) q142_188 (by decide) ?_
    refine a_icmp_ge (tgt := 232) q142_190 (by decide) (fun zc190_3 => absurd zc190_3 (by decide)) (fun zc190_3 => ?_)
    refine a_iload q142_193 rfl ?_
    refine AW.cut 223 (b2i (m_gk (VB A K) C r 3)) (fun zk223 => ?_) ?_
    · skip
      refine a_aload_n (i := 2) q142_195 rfl rfl ?_
      refine a_iload q142_196 rfl ?_
      refine a_iald' q142_198 rfl (j := 5) rfl (by decide) (by decide) ?_
      refine AW.ti hf.2.2.2.2.2 ?_
      refine a_if_lt (tgt := 222) q142_199 (by decide) (fun zc199 => ?_) (fun zc199 => ?_)
      · skip
        refine a_iconst (v := 0) q142_222 (by decide) ?_
        exact cutv zk223 (b2i_f (fun zz => absurd zz.1 (by rw [show C (2 + 3) = xI s3 from hf.2.2.2.2.2, xI_ge hd.2.2.2.2.2]; exact fun y => y ((xI_neg hd.2.2.2.2.2).mp zc199))))
      · skip
        have zs : ¬ s3 = 0 := fun zz => zc199 ((xI_neg hd.2.2.2.2.2).mpr zz)
        refine a_aload_n (i := 0) q142_202 rfl rfl ?_
        refine a_iload q142_203 rfl ?_
        refine a_aload_n (i := 2) q142_205 rfl rfl ?_
        refine a_iload q142_206 rfl ?_
        refine a_iald' q142_208 rfl (j := 5) rfl (by decide) (by decide) ?_
        refine AW.ti (hf.2.2.2.2.2.trans (xI_e zs)) ?_
        refine a_cs3 q142_209 rfl ⟨rfl, rfl⟩ rfl ?_
        refine c_L_value (show r < 40 by omega) (show _ - 1 < 6 by have := hd; unfold dgt at this; omega) ?_
        refine ck_r ?_
        refine a_sipush (v := (-10000)) q142_212 (by decide) ?_
        refine a_icmp_ne (tgt := 222) q142_215 (by decide) (fun zc215 => ?_) (fun zc215 => ?_)
        · skip
          refine a_iconst (v := 0) q142_222 (by decide) ?_
          exact cutv zk223 (b2i_f (fun zz => zc215 ((show VB A K 22 (6 * r + (C (2 + 3)).toNatClampNeg) = nv A (s3 - 1) r by rw [show C (2 + 3) = xI s3 from hf.2.2.2.2.2, xI_cl hd.2.2.2.2.2 zs]; rfl).symm.trans zz.2)))
        · skip
          refine a_iconst (v := 1) q142_218 (by decide) ?_
          refine a_goto (tgt := 223) q142_219 (by decide) ?_
          exact cutv zk223 (b2i_t ⟨by rw [show C (2 + 3) = xI s3 from hf.2.2.2.2.2, xI_ge hd.2.2.2.2.2]; exact zs, (show VB A K 22 (6 * r + (C (2 + 3)).toNatClampNeg) = nv A (s3 - 1) r by rw [show C (2 + 3) = xI s3 from hf.2.2.2.2.2, xI_cl hd.2.2.2.2.2 zs]; rfl).trans zc215⟩)
    refine a_iadd q142_223 ?_
    refine a_istore (i := 8) (lv' := [(0, _), (1, _), (2, _), (3, _), (4, _), (5, _), (6, _), (7, _), (8, _), (9, _)]) q142_224 rfl rfl ?_
    refine a_iinc (v := nI (5 + 1)) (lv' := [(0, _), (1, _), (2, _), (3, _), (4, _), (5, _), (6, _), (7, _), (8, _), (9, _)]) q142_226 rfl rfl (nI_1 (5)) rfl ?_
    refine a_goto (tgt := 186) q142_229 (by decide) ?_
    refine a_iload q142_186 rfl ?_
    refine a_bipush (v := 6) q142_188 (by decide) ?_
    refine a_icmp_ge (tgt := 232) q142_190 (by decide) (fun zc190_4 => ?_) (fun zc190_4 => absurd (by decide) zc190_4)
    refine a_iload q142_232 rfl ?_
    refine AW.cut 244 (b2i (m_gp (VB A K) C r)) (fun zk244 => ?_) ?_
    · skip
      refine a_iload q142_234 rfl ?_
      refine a_if_le (tgt := 243) q142_236 (by decide) (fun zc236 => ?_) (fun zc236 => ?_)
      · skip
        refine a_iconst (v := 0) q142_243 (by decide) ?_
        exact cutv zk244 (b2i_f (lak4.mp zc236))
      · skip
        refine a_iconst (v := 1) q142_239 (by decide) ?_
        refine a_goto (tgt := 244) q142_240 (by decide) ?_
        exact cutv zk244 (b2i_t (Classical.byContradiction (fun zz => zc236 (lak4.mpr zz))))
    refine a_iadd q142_244 ?_
    refine AW.ti (gap_s _ _ _) ?_
    refine a_istore (i := 6) (lv' := [(0, _), (1, _), (2, _), (3, _), (4, _), (5, _), (6, _), (7, _), (8, _), (9, _)]) q142_245 rfl rfl ?_
    refine a_iinc (v := nI (r + 1)) (lv' := [(0, _), (1, _), (2, _), (3, _), (4, _), (5, _), (6, _), (7, _), (8, _), (9, _)]) q142_247 rfl rfl (nI_1 (r)) rfl ?_
    refine a_goto (tgt := 172) q142_250 (by decide) ?_
    refine AW.pop_less (x := (9, _)) (lv' := [(0, _), (1, _), (2, _), (3, _), (4, _), (5, _), (6, _), (7, _), (8, _)]) ?_
    refine AW.pop_less (x := (8, _)) (lv' := [(0, _), (1, _), (2, _), (3, _), (4, _), (5, _), (6, _), (7, _)]) ?_
    exact ih hn hn40 hd hf (show r + 1 + m = n by omega) kk

theorem c_L_cost_ {X : XS} {I : Nat → Int32} {A : Nat → Nat → Int32} {L : Nat → Nat → Int64} {Q : AO → AH → Prop} {K : Nat → Int32} {B : Nat → Int64} {C : Nat → Int32} {n m a s0 s1 s2 s3 : Nat} (hn : A 30 0 = nI n) (hn40 : n ≤ 40) (hK : ∀ c, c < 6 → 0 ≤ K c ∧ K c ≤ 4) (hd : dgt m a s0 s1 s2 s3) (hf : digF C m a s0 s1 s2 s3) (hq : Q (.inl (some (.int (addL (VB A K 24) (softL A K C) 8 0 (nI (0 + b0N (kS K s0) + b1N (kS K s1) + b2N (kS K s2) + b3N (kS K s3))) + m_gap (VB A K) C n / 5)))) (hp I A L [kc K, lc B, cc C])) : Call X 142 [.ref 0, .ref 22, .ref 24] (hp I A L [kc K, lc B, cc C]) Q := by
  refine call_of (by decide) rfl rfl ?_
  refine a_bipush (v := 12) q142_0 (by decide) ?_
  refine a_newarray (a := 0) (kn := 25) (N := 12) q142_2 (by decide) rfl (by decide) rfl (by decide) rfl ⟨rfl, rfl⟩ ?_
  refine AW.hp (h' := (hp I A L [kc K, lc B, cc C, kc (fun _ => 0)])) rfl ?_
  refine a_dup q142_4 rfl ?_
  refine a_iconst (v := 0) q142_5 (by decide) ?_
  refine a_iconst (v := 0) q142_6 (by decide) ?_
  refine a_iast' q142_7 rfl (j := 0) rfl (by decide) (by decide) (h' := (hp I A L [kc K, lc B, cc C, kc (upd (fun _ => 0) 0 0)])) rfl ?_
  refine a_dup q142_8 rfl ?_
  refine a_iconst (v := 1) q142_9 (by decide) ?_
  refine a_iconst (v := 2) q142_10 (by decide) ?_
  refine a_iast' q142_11 rfl (j := 1) rfl (by decide) (by decide) (h' := (hp I A L [kc K, lc B, cc C, kc (upd (upd (fun _ => 0) 0 0) 1 2)])) rfl ?_
  refine a_dup q142_12 rfl ?_
  refine a_iconst (v := 2) q142_13 (by decide) ?_
  refine a_bipush (v := 6) q142_14 (by decide) ?_
  refine a_iast' q142_16 rfl (j := 2) rfl (by decide) (by decide) (h' := (hp I A L [kc K, lc B, cc C, kc (upd (upd (upd (fun _ => 0) 0 0) 1 2) 2 6)])) rfl ?_
  refine a_dup q142_17 rfl ?_
  refine a_iconst (v := 3) q142_18 (by decide) ?_
  refine a_iconst (v := 0) q142_19 (by decide) ?_
  refine a_iast' q142_20 rfl (j := 3) rfl (by decide) (by decide) (h' := (hp I A L [kc K, lc B, cc C, kc (upd (upd (upd (upd (fun _ => 0) 0 0) 1 2) 2 6) 3 0)])) rfl ?_
  refine a_dup q142_21 rfl ?_
  refine a_iconst (v := 4) q142_22 (by decide) ?_
  refine a_iconst (v := 1) q142_23 (by decide) ?_
  refine a_iast' q142_24 rfl (j := 4) rfl (by decide) (by decide) (h' := (hp I A L [kc K, lc B, cc C, kc (upd (upd (upd (upd (upd (fun _ => 0) 0 0) 1 2) 2 6) 3 0) 4 1)])) rfl ?_
  refine a_dup q142_25 rfl ?_
  refine a_iconst (v := 5) q142_26 (by decide) ?_
  refine a_iconst (v := 2) q142_27 (by decide) ?_
  refine a_iast' q142_28 rfl (j := 5) rfl (by decide) (by decide) (h' := (hp I A L [kc K, lc B, cc C, kc (upd (upd (upd (upd (upd (upd (fun _ => 0) 0 0) 1 2) 2 6) 3 0) 4 1) 5 2)])) rfl ?_
  refine a_dup q142_29 rfl ?_
  refine a_bipush (v := 6) q142_30 (by decide) ?_
  refine a_iconst (v := 2) q142_32 (by decide) ?_
  refine a_iast' q142_33 rfl (j := 6) rfl (by decide) (by decide) (h' := (hp I A L [kc K, lc B, cc C, kc (upd (upd (upd (upd (upd (upd (upd (fun _ => 0) 0 0) 1 2) 2 6) 3 0) 4 1) 5 2) 6 2)])) rfl ?_
  refine a_dup q142_34 rfl ?_
  refine a_bipush (v := 7) q142_35 (by decide) ?_
  refine a_iconst (v := 0) q142_37 (by decide) ?_
  refine a_iast' q142_38 rfl (j := 7) rfl (by decide) (by decide) (h' := (hp I A L [kc K, lc B, cc C, kc (upd (upd (upd (upd (upd (upd (upd (upd (fun _ => 0) 0 0) 1 2) 2 6) 3 0) 4 1) 5 2) 6 2) 7 0)])) rfl ?_
  refine a_dup q142_39 rfl ?_
  refine a_bipush (v := 8) q142_40 (by decide) ?_
  refine a_iconst (v := 1) q142_42 (by decide) ?_
  refine a_iast' q142_43 rfl (j := 8) rfl (by decide) (by decide) (h' := (hp I A L [kc K, lc B, cc C, kc (upd (upd (upd (upd (upd (upd (upd (upd (upd (fun _ => 0) 0 0) 1 2) 2 6) 3 0) 4 1) 5 2) 6 2) 7 0) 8 1)])) rfl ?_
  refine a_dup q142_44 rfl ?_
  refine a_bipush (v := 9) q142_45 (by decide) ?_
  refine a_iconst (v := 0) q142_47 (by decide) ?_
  refine a_iast' q142_48 rfl (j := 9) rfl (by decide) (by decide) (h' := (hp I A L [kc K, lc B, cc C, kc (upd (upd (upd (upd (upd (upd (upd (upd (upd (upd (fun _ => 0) 0 0) 1 2) 2 6) 3 0) 4 1) 5 2) 6 2) 7 0) 8 1) 9 0)])) rfl ?_
  refine a_dup q142_49 rfl ?_
  refine a_bipush (v := 10) q142_50 (by decide) ?_
  refine a_iconst (v := 4) q142_52 (by decide) ?_
  refine a_iast' q142_53 rfl (j := 10) rfl (by decide) (by decide) (h' := (hp I A L [kc K, lc B, cc C, kc (upd (upd (upd (upd (upd (upd (upd (upd (upd (upd (upd (fun _ => 0) 0 0) 1 2) 2 6) 3 0) 4 1) 5 2) 6 2) 7 0) 8 1) 9 0) 10 4)])) rfl ?_
  refine a_dup q142_54 rfl ?_
  refine a_bipush (v := 11) q142_55 (by decide) ?_
  refine a_iconst (v := 3) q142_57 (by decide) ?_
  refine a_iast' q142_58 rfl (j := 11) rfl (by decide) (by decide) (h' := (hp I A L [kc K, lc B, cc C, kc (upd (upd (upd (upd (upd (upd (upd (upd (upd (upd (upd (upd (fun _ => 0) 0 0) 1 2) 2 6) 3 0) 4 1) 5 2) 6 2) 7 0) 8 1) 9 0) 10 4) 11 3)])) rfl ?_
  have hT : ∀ j, j < 12 → (upd (upd (upd (upd (upd (upd (upd (upd (upd (upd (upd (upd (fun _ => 0) 0 0) 1 2) 2 6) 3 0) 4 1) 5 2) 6 2) 7 0) 8 1) 9 0) 10 4) 11 3) j = ro_c j := by
    intro j hj
    rcases (show j = 0 ∨ j = 1 ∨ j = 2 ∨ j = 3 ∨ j = 4 ∨ j = 5 ∨ j = 6 ∨ j = 7 ∨ j = 8 ∨ j = 9 ∨ j = 10 ∨ j = 11 by omega) with rfl | rfl | rfl | rfl | rfl | rfl | rfl | rfl | rfl | rfl | rfl | rfl <;> rfl
  generalize (upd (upd (upd (upd (upd (upd (upd (upd (upd (upd (upd (upd (fun _ => 0) 0 0) 1 2) 2 6) 3 0) 4 1) 5 2) 6 2) 7 0) 8 1) 9 0) 10 4) 11 3) = T at hT ⊢
  refine a_astore_n (i := 3) (lv' := [(0, _), (1, _), (2, _), (3, _)]) q142_59 rfl rfl rfl ?_
  refine a_iconst (v := 0) q142_60 (by decide) ?_
  refine a_istore (i := 4) (lv' := [(0, _), (1, _), (2, _), (3, _), (4, _)]) q142_61 rfl rfl ?_
  refine a_iconst (v := 0) q142_63 (by decide) ?_
  refine a_istore (i := 5) (lv' := [(0, _), (1, _), (2, _), (3, _), (4, _), (5, _)]) q142_64 rfl rfl ?_
  refine a_iload q142_66 rfl ?_
  refine a_iconst (v := 4) q142_68 (by decide) ?_
  refine a_icmp_ge (tgt := 122) q142_69 (by decide) (fun zc69 => absurd zc69 (by decide)) (fun zc69 => ?_)
  refine a_aload_n (i := 2) q142_72 rfl rfl ?_
  refine a_iconst (v := 2) q142_73 (by decide) ?_
  refine a_iload q142_74 rfl ?_
  refine a_iadd q142_76 ?_
  refine a_iald' q142_77 rfl (j := 2) (by decide) (by decide) (by decide) ?_
  refine AW.ti hf.2.2.1 ?_
  refine a_istore (i := 6) (lv' := [(0, _), (1, _), (2, _), (3, _), (4, _), (5, _), (6, _)]) q142_78 rfl rfl ?_
  refine a_iload q142_80 rfl ?_
  have hs0 := hd.2.2.1
  obtain ⟨κ, hκ, eκ⟩ := nI_r (hK (s0 - 1) (by omega))
  refine AW.cut 113 (nI (b0N (kS K s0))) (fun zk113 => ?_) ?_
  · skip
    refine a_iload q142_82 rfl ?_
    refine a_if_lt (tgt := 112) q142_84 (by decide) (fun zc84 => ?_) (fun zc84 => ?_)
    · skip
      refine a_iconst (v := 0) q142_112 (by decide) ?_
      exact cutv zk113 (by rw [show kS K s0 = -1 from if_pos ((xI_neg hs0).mp zc84)]; rfl)
    · skip
      have zs : ¬ s0 = 0 := fun zz => zc84 ((xI_neg hs0).mpr zz)
      refine a_aload_n (i := 1) q142_87 rfl rfl ?_
      refine a_iload q142_88 rfl ?_
      refine a_iald' q142_90 rfl (j := s0 - 1) (xI_e zs) (by omega) (by decide) ?_
      refine AW.ti eκ ?_
      refine a_iconst (v := 1) q142_91 (by decide) ?_
      refine a_icmp_le (tgt := 112) q142_92 (by decide) (fun zc92 => ?_) (fun zc92 => ?_)
      · skip
        refine a_iconst (v := 0) q142_112 (by decide) ?_
        exact cutv zk113 (by rw [kS_s zs, eκ]; have y := (nI_leI (b := 1) (show κ < 2 ^ 31 by omega) (by decide)).mp zc92; rcases (show κ = 0 ∨ κ = 1 by omega) with rfl | rfl <;> decide)
      · skip
        have y2 : 2 ≤ κ := by
          have y := mt (nI_leI (b := 1) (show κ < 2 ^ 31 by omega) (by decide)).mpr zc92
          omega
        refine a_aload_n (i := 3) q142_95 rfl rfl ?_
        refine a_iconst (v := 4) q142_96 (by decide) ?_
        refine a_aload_n (i := 1) q142_97 rfl rfl ?_
        refine a_iload q142_98 rfl ?_
        refine a_iald' q142_100 rfl (j := s0 - 1) (xI_e zs) (by omega) (by decide) ?_
        refine AW.ti eκ ?_
        refine a_imul q142_101 ?_
        refine a_bipush (v := 8) q142_102 (by decide) ?_
        refine a_isub q142_104 ?_
        refine a_iload q142_105 rfl ?_
        refine a_iadd q142_107 ?_
        refine a_iald' q142_108 rfl (j := 4 * κ - 8 + 0) (by rw [show (4 : Int32) = nI 4 from rfl, pk_mul, show (8 : Int32) = nI 8 from rfl, pk_sub (by omega)]; exact nI_add _ 0) (by omega) (by decide) ?_
        refine AW.ti (hT _ (by omega)) ?_
        refine a_goto (tgt := 113) q142_109 (by decide) ?_
        exact cutv zk113 (by rw [kS_s zs, eκ]; rcases (show κ = 2 ∨ κ = 3 ∨ κ = 4 by omega) with rfl | rfl | rfl <;> decide)
  refine a_iadd q142_113 ?_
  refine AW.ti (nI_add (0) (b0N (kS K s0))) ?_
  refine a_istore (i := 4) (lv' := [(0, _), (1, _), (2, _), (3, _), (4, _), (5, _), (6, _)]) q142_114 rfl rfl ?_
  refine a_iinc (v := nI (0 + 1)) (lv' := [(0, _), (1, _), (2, _), (3, _), (4, _), (5, _), (6, _)]) q142_116 rfl rfl (nI_1 (0)) rfl ?_
  refine a_goto (tgt := 66) q142_119 (by decide) ?_
  refine a_iload q142_66 rfl ?_
  refine a_iconst (v := 4) q142_68 (by decide) ?_
  refine a_icmp_ge (tgt := 122) q142_69 (by decide) (fun zc69_1 => absurd zc69_1 (by decide)) (fun zc69_1 => ?_)
  refine a_aload_n (i := 2) q142_72 rfl rfl ?_
  refine a_iconst (v := 2) q142_73 (by decide) ?_
  refine a_iload q142_74 rfl ?_
  refine a_iadd q142_76 ?_
  refine a_iald' q142_77 rfl (j := 3) (by decide) (by decide) (by decide) ?_
  refine AW.ti hf.2.2.2.1 ?_
  refine a_istore (i := 6) (lv' := [(0, _), (1, _), (2, _), (3, _), (4, _), (5, _), (6, _)]) q142_78 rfl rfl ?_
  refine a_iload q142_80 rfl ?_
  have hs1 := hd.2.2.2.1
  obtain ⟨κ, hκ, eκ⟩ := nI_r (hK (s1 - 1) (by omega))
  refine AW.cut 113 (nI (b1N (kS K s1))) (fun zk113 => ?_) ?_
  · skip
    refine a_iload q142_82 rfl ?_
    refine a_if_lt (tgt := 112) q142_84 (by decide) (fun zc84 => ?_) (fun zc84 => ?_)
    · skip
      refine a_iconst (v := 0) q142_112 (by decide) ?_
      exact cutv zk113 (by rw [show kS K s1 = -1 from if_pos ((xI_neg hs1).mp zc84)]; rfl)
    · skip
      have zs : ¬ s1 = 0 := fun zz => zc84 ((xI_neg hs1).mpr zz)
      refine a_aload_n (i := 1) q142_87 rfl rfl ?_
      refine a_iload q142_88 rfl ?_
      refine a_iald' q142_90 rfl (j := s1 - 1) (xI_e zs) (by omega) (by decide) ?_
      refine AW.ti eκ ?_
      refine a_iconst (v := 1) q142_91 (by decide) ?_
      refine a_icmp_le (tgt := 112) q142_92 (by decide) (fun zc92 => ?_) (fun zc92 => ?_)
      · skip
        refine a_iconst (v := 0) q142_112 (by decide) ?_
        exact cutv zk113 (by rw [kS_s zs, eκ]; have y := (nI_leI (b := 1) (show κ < 2 ^ 31 by omega) (by decide)).mp zc92; rcases (show κ = 0 ∨ κ = 1 by omega) with rfl | rfl <;> decide)
      · skip
        have y2 : 2 ≤ κ := by
          have y := mt (nI_leI (b := 1) (show κ < 2 ^ 31 by omega) (by decide)).mpr zc92
          omega
        refine a_aload_n (i := 3) q142_95 rfl rfl ?_
        refine a_iconst (v := 4) q142_96 (by decide) ?_
        refine a_aload_n (i := 1) q142_97 rfl rfl ?_
        refine a_iload q142_98 rfl ?_
        refine a_iald' q142_100 rfl (j := s1 - 1) (xI_e zs) (by omega) (by decide) ?_
        refine AW.ti eκ ?_
        refine a_imul q142_101 ?_
        refine a_bipush (v := 8) q142_102 (by decide) ?_
        refine a_isub q142_104 ?_
        refine a_iload q142_105 rfl ?_
        refine a_iadd q142_107 ?_
        refine a_iald' q142_108 rfl (j := 4 * κ - 8 + 1) (by rw [show (4 : Int32) = nI 4 from rfl, pk_mul, show (8 : Int32) = nI 8 from rfl, pk_sub (by omega)]; exact nI_add _ 1) (by omega) (by decide) ?_
        refine AW.ti (hT _ (by omega)) ?_
        refine a_goto (tgt := 113) q142_109 (by decide) ?_
        exact cutv zk113 (by rw [kS_s zs, eκ]; rcases (show κ = 2 ∨ κ = 3 ∨ κ = 4 by omega) with rfl | rfl | rfl <;> decide)
  refine a_iadd q142_113 ?_
  refine AW.ti (nI_add (0 + b0N (kS K s0)) (b1N (kS K s1))) ?_
  refine a_istore (i := 4) (lv' := [(0, _), (1, _), (2, _), (3, _), (4, _), (5, _), (6, _)]) q142_114 rfl rfl ?_
  refine a_iinc (v := nI (1 + 1)) (lv' := [(0, _), (1, _), (2, _), (3, _), (4, _), (5, _), (6, _)]) q142_116 rfl rfl (nI_1 (1)) rfl ?_
  refine a_goto (tgt := 66) q142_119 (by decide) ?_
  refine a_iload q142_66 rfl ?_
  refine a_iconst (v := 4) q142_68 (by decide) ?_
  refine a_icmp_ge (tgt := 122) q142_69 (by decide) (fun zc69_2 => absurd zc69_2 (by decide)) (fun zc69_2 => ?_)
  refine a_aload_n (i := 2) q142_72 rfl rfl ?_
  refine a_iconst (v := 2) q142_73 (by decide) ?_
  refine a_iload q142_74 rfl ?_
  refine a_iadd q142_76 ?_
  refine a_iald' q142_77 rfl (j := 4) (by decide) (by decide) (by decide) ?_
  refine AW.ti hf.2.2.2.2.1 ?_
  refine a_istore (i := 6) (lv' := [(0, _), (1, _), (2, _), (3, _), (4, _), (5, _), (6, _)]) q142_78 rfl rfl ?_
  refine a_iload q142_80 rfl ?_
  have hs2 := hd.2.2.2.2.1
  obtain ⟨κ, hκ, eκ⟩ := nI_r (hK (s2 - 1) (by omega))
  refine AW.cut 113 (nI (b2N (kS K s2))) (fun zk113 => ?_) ?_
  · skip
    refine a_iload q142_82 rfl ?_
    refine a_if_lt (tgt := 112) q142_84 (by decide) (fun zc84 => ?_) (fun zc84 => ?_)
    · skip
      refine a_iconst (v := 0) q142_112 (by decide) ?_
      exact cutv zk113 (by rw [show kS K s2 = -1 from if_pos ((xI_neg hs2).mp zc84)]; rfl)
    · skip
      have zs : ¬ s2 = 0 := fun zz => zc84 ((xI_neg hs2).mpr zz)
      refine a_aload_n (i := 1) q142_87 rfl rfl ?_
      refine a_iload q142_88 rfl ?_
      refine a_iald' q142_90 rfl (j := s2 - 1) (xI_e zs) (by omega) (by decide) ?_
      refine AW.ti eκ ?_
      refine a_iconst (v := 1) q142_91 (by decide) ?_
      refine a_icmp_le (tgt := 112) q142_92 (by decide) (fun zc92 => ?_) (fun zc92 => ?_)
      · skip
        refine a_iconst (v := 0) q142_112 (by decide) ?_
        exact cutv zk113 (by rw [kS_s zs, eκ]; have y := (nI_leI (b := 1) (show κ < 2 ^ 31 by omega) (by decide)).mp zc92; rcases (show κ = 0 ∨ κ = 1 by omega) with rfl | rfl <;> decide)
      · skip
        have y2 : 2 ≤ κ := by
          have y := mt (nI_leI (b := 1) (show κ < 2 ^ 31 by omega) (by decide)).mpr zc92
          omega
        refine a_aload_n (i := 3) q142_95 rfl rfl ?_
        refine a_iconst (v := 4) q142_96 (by decide) ?_
        refine a_aload_n (i := 1) q142_97 rfl rfl ?_
        refine a_iload q142_98 rfl ?_
        refine a_iald' q142_100 rfl (j := s2 - 1) (xI_e zs) (by omega) (by decide) ?_
        refine AW.ti eκ ?_
        refine a_imul q142_101 ?_
        refine a_bipush (v := 8) q142_102 (by decide) ?_
        refine a_isub q142_104 ?_
        refine a_iload q142_105 rfl ?_
        refine a_iadd q142_107 ?_
        refine a_iald' q142_108 rfl (j := 4 * κ - 8 + 2) (by rw [show (4 : Int32) = nI 4 from rfl, pk_mul, show (8 : Int32) = nI 8 from rfl, pk_sub (by omega)]; exact nI_add _ 2) (by omega) (by decide) ?_
        refine AW.ti (hT _ (by omega)) ?_
        refine a_goto (tgt := 113) q142_109 (by decide) ?_
        exact cutv zk113 (by rw [kS_s zs, eκ]; rcases (show κ = 2 ∨ κ = 3 ∨ κ = 4 by omega) with rfl | rfl | rfl <;> decide)
  refine a_iadd q142_113 ?_
  refine AW.ti (nI_add (0 + b0N (kS K s0) + b1N (kS K s1)) (b2N (kS K s2))) ?_
  refine a_istore (i := 4) (lv' := [(0, _), (1, _), (2, _), (3, _), (4, _), (5, _), (6, _)]) q142_114 rfl rfl ?_
  refine a_iinc (v := nI (2 + 1)) (lv' := [(0, _), (1, _), (2, _), (3, _), (4, _), (5, _), (6, _)]) q142_116 rfl rfl (nI_1 (2)) rfl ?_
  refine a_goto (tgt := 66) q142_119 (by decide) ?_
  refine a_iload q142_66 rfl ?_
  refine a_iconst (v := 4) q142_68 (by decide) ?_
  refine a_icmp_ge (tgt := 122) q142_69 (by decide) (fun zc69_3 => absurd zc69_3 (by decide)) (fun zc69_3 => ?_)
  refine a_aload_n (i := 2) q142_72 rfl rfl ?_
  refine a_iconst (v := 2) q142_73 (by decide) ?_
  refine a_iload q142_74 rfl ?_
  refine a_iadd q142_76 ?_
  refine a_iald' q142_77 rfl (j := 5) (by decide) (by decide) (by decide) ?_
  refine AW.ti hf.2.2.2.2.2 ?_
  refine a_istore (i := 6) (lv' := [(0, _), (1, _), (2, _), (3, _), (4, _), (5, _), (6, _)]) q142_78 rfl rfl ?_
  refine a_iload q142_80 rfl ?_
  have hs3 := hd.2.2.2.2.2
  obtain ⟨κ, hκ, eκ⟩ := nI_r (hK (s3 - 1) (by omega))
  refine AW.cut 113 (nI (b3N (kS K s3))) (fun zk113 => ?_) ?_
  · skip
    refine a_iload q142_82 rfl ?_
    refine a_if_lt (tgt := 112) q142_84 (by decide) (fun zc84 => ?_) (fun zc84 => ?_)
    · skip
      refine a_iconst (v := 0) q142_112 (by decide) ?_
      exact cutv zk113 (by rw [show kS K s3 = -1 from if_pos ((xI_neg hs3).mp zc84)]; rfl)
    · skip
      have zs : ¬ s3 = 0 := fun zz => zc84 ((xI_neg hs3).mpr zz)
      refine a_aload_n (i := 1) q142_87 rfl rfl ?_
      refine a_iload q142_88 rfl ?_
      refine a_iald' q142_90 rfl (j := s3 - 1) (xI_e zs) (by omega) (by decide) ?_
      refine AW.ti eκ ?_
      refine a_iconst (v := 1) q142_91 (by decide) ?_
      refine a_icmp_le (tgt := 112) q142_92 (by decide) (fun zc92 => ?_) (fun zc92 => ?_)
      · skip
        refine a_iconst (v := 0) q142_112 (by decide) ?_
        exact cutv zk113 (by rw [kS_s zs, eκ]; have y := (nI_leI (b := 1) (show κ < 2 ^ 31 by omega) (by decide)).mp zc92; rcases (show κ = 0 ∨ κ = 1 by omega) with rfl | rfl <;> decide)
      · skip
        have y2 : 2 ≤ κ := by
          have y := mt (nI_leI (b := 1) (show κ < 2 ^ 31 by omega) (by decide)).mpr zc92
          omega
        refine a_aload_n (i := 3) q142_95 rfl rfl ?_
        refine a_iconst (v := 4) q142_96 (by decide) ?_
        refine a_aload_n (i := 1) q142_97 rfl rfl ?_
        refine a_iload q142_98 rfl ?_
        refine a_iald' q142_100 rfl (j := s3 - 1) (xI_e zs) (by omega) (by decide) ?_
        refine AW.ti eκ ?_
        refine a_imul q142_101 ?_
        refine a_bipush (v := 8) q142_102 (by decide) ?_
        refine a_isub q142_104 ?_
        refine a_iload q142_105 rfl ?_
        refine a_iadd q142_107 ?_
        refine a_iald' q142_108 rfl (j := 4 * κ - 8 + 3) (by rw [show (4 : Int32) = nI 4 from rfl, pk_mul, show (8 : Int32) = nI 8 from rfl, pk_sub (by omega)]; exact nI_add _ 3) (by omega) (by decide) ?_
        refine AW.ti (hT _ (by omega)) ?_
        refine a_goto (tgt := 113) q142_109 (by decide) ?_
        exact cutv zk113 (by rw [kS_s zs, eκ]; rcases (show κ = 2 ∨ κ = 3 ∨ κ = 4 by omega) with rfl | rfl | rfl <;> decide)
  refine a_iadd q142_113 ?_
  refine AW.ti (nI_add (0 + b0N (kS K s0) + b1N (kS K s1) + b2N (kS K s2)) (b3N (kS K s3))) ?_
  refine a_istore (i := 4) (lv' := [(0, _), (1, _), (2, _), (3, _), (4, _), (5, _), (6, _)]) q142_114 rfl rfl ?_
  refine a_iinc (v := nI (3 + 1)) (lv' := [(0, _), (1, _), (2, _), (3, _), (4, _), (5, _), (6, _)]) q142_116 rfl rfl (nI_1 (3)) rfl ?_
  refine a_goto (tgt := 66) q142_119 (by decide) ?_
  refine a_iload q142_66 rfl ?_
  refine a_iconst (v := 4) q142_68 (by decide) ?_
  refine a_icmp_ge (tgt := 122) q142_69 (by decide) (fun zc69_4 => ?_) (fun zc69_4 => absurd (by decide) zc69_4)
  refine a_aload_n (i := 0) q142_122 rfl rfl ?_
  refine a_aload_n (i := 1) q142_123 rfl rfl ?_
  refine a_aload_n (i := 2) q142_124 rfl rfl ?_
  refine a_cs3 q142_125 rfl ⟨rfl, rfl⟩ rfl ?_
  refine c_L_softs hd hf ?_
  refine ck_r ?_
  refine a_istore (i := 5) (lv' := [(0, _), (1, _), (2, _), (3, _), (4, _), (5, _), (6, _)]) q142_128 rfl rfl ?_
  refine a_iconst (v := 0) q142_130 (by decide) ?_
  refine a_istore (i := 6) (lv' := [(0, _), (1, _), (2, _), (3, _), (4, _), (5, _), (6, _)]) q142_131 rfl rfl ?_
  
  refine AW.wide (bc' := 0) (bs' := 0) (Nat.zero_le _) (Nat.zero_le _) ?_
  refine l_cw 8 (k := 0) rfl ?_
  refine a_iconst (v := 0) q142_166 (by decide) ?_
  refine a_istore (i := 6) (lv' := [(0, _), (1, _), (2, _), (3, _), (4, _), (5, _), (6, _)]) q142_167 rfl rfl ?_
  refine a_iconst (v := 0) q142_169 (by decide) ?_
  refine a_istore (i := 7) (lv' := [(0, _), (1, _), (2, _), (3, _), (4, _), (5, _), (6, _), (7, _)]) q142_170 rfl rfl ?_
  refine l_cg n (r := 0) hn hn40 hd hf (Nat.zero_add n) ?_
  refine a_iload q142_253 rfl ?_
  refine a_iload q142_255 rfl ?_
  refine a_iconst (v := 5) q142_257 (by decide) ?_
  refine a_idiv q142_258 (by decide) ?_
  refine a_iadd q142_259 ?_
  refine AW.hp (h' := hp I A L [kc K, lc B, cc C] ++ [kc T]) rfl ?_
  refine AW.drop rfl ?_
  refine a_ireturn q142_260 (nr_int rfl _) ?_
  exact hq

theorem upd_s (f : Nat → Int32) (i : Nat) (x : Int32) : upd f i x i = x := pk_us
theorem upd_n {f : Nat → Int32} {i j : Nat} {x : Int32} (h : ¬ j = i) : upd f i x j = f j := pk_un h
theorem l_knds (m : Nat) : ∀ {X : XS} {I : Nat → Int32} {A : Nat → Nat → Int32} {L : Nat → Nat → Int64} {Q : AO → AH → Prop} {K : Nat → Int32} {n k : Nat} (hn : A 30 0 = nI n) (hn40 : n ≤ 40) (hv : ∀ c, c < 6 → ∀ r, r < n → isVal (nv A c r)) (hm : k + m = 6) (hk : ∀ c, c < k → K c = nkd A n c ∧ K (6 + c) = stDif (nv A c) n) (hq : ∀ K, (∀ c, c < 6 → K c = nkd A n c ∧ K (6 + c) = stDif (nv A c) n) → Q (.inl (some (.ref 22))) (hp I A L [kc K])), AW X 137 7 [(0, .ref 0), (1, .ref 22), (2, .int (nI k))] [] (hp I A L [kc K]) 0 0 Q := by
  induction m with
  | zero =>
    intro X I A L Q K n k hn hn40 hv hm hk hq
    refine a_iload_n (i := 2) q137_7 rfl rfl ?_
    refine a_bipush (v := 6) q137_8 (by decide) ?_
    refine a_icmp_ge (tgt := 38) q137_10 (by decide) (fun zc10 => ?_) (fun zc10 => absurd (nI_le (show 6 ≤ k by omega) (by omega)) zc10)
    refine a_aload_n (i := 1) q137_38 rfl rfl ?_
    refine a_areturn q137_39 ⟨_, rfl, Or.inr ⟨_, rfl⟩⟩ ?_
    exact hq K (by rw [show k = 6 by omega] at hk; exact hk)
  | succ m ih =>
    intro X I A L Q K n k hn hn40 hv hm hk hq
    refine a_iload_n (i := 2) q137_7 rfl rfl ?_
    refine a_bipush (v := 6) q137_8 (by decide) ?_
    refine a_icmp_ge (tgt := 38) q137_10 (by decide) (fun zc10 => absurd zc10 (nI_ge (show k < 6 by omega) (by decide))) (fun zc10 => ?_)
    refine a_aload_n (i := 1) q137_13 rfl rfl ?_
    refine a_iload_n (i := 2) q137_14 rfl rfl ?_
    refine a_aload_n (i := 0) q137_15 rfl rfl ?_
    refine a_iload_n (i := 2) q137_16 rfl rfl ?_
    refine a_cs2 q137_17 rfl ⟨rfl, rfl⟩ rfl ?_
    refine c_L_kind hn hn40 (show k < 6 by omega) (hv k (by omega)) ?_
    refine ck_r ?_
    refine a_iast' q137_20 rfl (j := k) rfl (by omega) (by decide) (h' := (hp I A L [kc (upd K k (nkd A n k))])) rfl ?_
    refine a_aload_n (i := 1) q137_21 rfl rfl ?_
    refine a_bipush (v := 6) q137_22 (by decide) ?_
    refine a_iload_n (i := 2) q137_24 rfl rfl ?_
    refine a_iadd q137_25 ?_
    refine AW.ti (nI_add 6 k) ?_
    refine a_aload_n (i := 0) q137_26 rfl rfl ?_
    refine a_iload_n (i := 2) q137_27 rfl rfl ?_
    refine a_cs2 q137_28 rfl ⟨rfl, rfl⟩ rfl ?_
    refine c_L_different_ hn hn40 (show k < 6 by omega) (hv k (by omega)) ?_
    refine ck_r ?_
    refine a_iast' q137_31 rfl (j := 6 + k) rfl (by omega) (by decide) (h' := (hp I A L [kc (upd (upd K k (nkd A n k)) (6 + k) (stDif (nv A k) n))])) rfl ?_
    refine a_iinc (v := nI (k + 1)) (lv' := [(0, _), (1, _), (2, _)]) q137_32 rfl rfl (nI_1 (k)) rfl ?_
    refine a_goto (tgt := 7) q137_35 (by decide) ?_
    exact ih (K := (upd (upd K k (nkd A n k)) (6 + k) (stDif (nv A k) n))) hn hn40 hv (show k + 1 + m = 6 by omega) (fun c hc => by
        by_cases e : c = k
        · subst e; exact ⟨by rw [upd_n (by omega), upd_s], upd_s _ _ _⟩
        · rw [upd_n (by omega), upd_n e, upd_n (by omega), upd_n (by omega)]; exact hk c (by omega)) hq

theorem c_L_kinds {X : XS} {I : Nat → Int32} {A : Nat → Nat → Int32} {L : Nat → Nat → Int64} {Q : AO → AH → Prop} {n : Nat} (hn : A 30 0 = nI n) (hn40 : n ≤ 40) (hv : ∀ c, c < 6 → ∀ r, r < n → isVal (nv A c r)) (hq : ∀ K, (∀ c, c < 6 → K c = nkd A n c ∧ K (6 + c) = stDif (nv A c) n) → Q (.inl (some (.ref 22))) (hp I A L [kc K])) : Call X 137 [.ref 0] (hp I A L []) Q := by
  refine call_of (by decide) rfl rfl ?_
  refine a_bipush (v := 12) q137_0 (by decide) ?_
  refine a_newarray (a := 0) (kn := 22) (N := 12) q137_2 (by decide) rfl (by decide) rfl (by decide) rfl ⟨rfl, rfl⟩ ?_
  refine AW.hp (h' := (hp I A L [kc (fun _ => 0)])) rfl ?_
  refine a_astore_n (i := 1) (lv' := [(0, _), (1, _)]) q137_4 rfl rfl rfl ?_
  refine a_iconst (v := 0) q137_5 (by decide) ?_
  refine a_istore_n (i := 2) (lv' := [(0, _), (1, _), (2, _)]) q137_6 rfl rfl rfl ?_
  refine AW.wide (bc' := 0) (bs' := 0) (Nat.zero_le _) (Nat.zero_le _) ?_
  exact l_knds 6 (k := 0) hn hn40 hv rfl (fun c hc => absurd hc (Nat.not_lt_zero c)) hq
