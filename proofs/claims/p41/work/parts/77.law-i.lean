/-! the law's isSet -/
theorem k234 : ∀ u, u < 3 → (nI (2 + u) = 2 ∨ nI (2 + u) = 3 ∨ nI (2 + u) = 4) := by decide
theorem b2i_n1 {p : Prop} [Decidable p] (h : ¬ b2i p = 1) : b2i p = 0 := b2i_01.resolve_right h
theorem set_0 {X : XS} {I : Nat → Int32} {A : Nat → Nat → Int32} {L : Nat → Nat → Int64} {Q : AO → AH → Prop} {i c : Nat} (hX : X.1.1 ≤ 260) (hi : i < 800000) (hc : c < 6) (hr : RelL I A L) (hq : ∀ I' A' L', RelL I' A' L' → Q (.inl (some (.int 1))) (hp I' A' L' [])) : AW X 146 68 [(0, .ref 1), (1, .ref 0), (2, .ref 1003), (3, .int (nI i)), (4, .int (nI c))] [] (hp I A L []) 25 150 Q := by
  obtain ⟨n, hT, hW, h18, hC⟩ := id hr
  have h40 := hT.1
  refine a_aload_n (i := 1) q146_68 rfl rfl ?_
  refine a_bipush (v := 10) q146_69 (by decide) ?_
  refine a_iload q146_71 rfl ?_
  refine a_iadd q146_73 ?_
  refine AW.ti (nI_add 10 c) ?_
  refine a_iconst (v := 2) q146_74 (by decide) ?_
  refine a_aload_n (i := 2) q146_75 rfl rfl ?_
  refine a_iload_n (i := 3) q146_76 rfl rfl ?_
  refine a_iconst (v := 2) q146_77 (by decide) ?_
  refine a_iadd q146_78 ?_
  refine AW.ti (nI_add i 2) ?_
  refine a_iconst (v := 3) q146_79 (by decide) ?_
  refine a_cs3 q146_80 rfl ⟨rfl, rfl⟩ rfl ?_
  refine c_L_in hX (i := i + 2) (m := 3) (by omega) (by omega) (by omega) (fun u hu => ?_)
  refine ck_r ?_
  refine a_iadd q146_83 ?_
  refine AW.ti (nI_add 2 u) ?_
  refine a_iast' q146_84 rfl (j := 10 + c) rfl (by omega) (by decide) (h' := hp I (va_up A 30 (upd (A 30) (10 + c) (nI (2 + u)))) L []) rfl ?_
  refine a_aload_n (i := 0) q146_85 rfl rfl ?_
  refine a_iload q146_86 rfl ?_
  refine a_aload_n (i := 1) q146_88 rfl rfl ?_
  refine a_bipush (v := 10) q146_89 (by decide) ?_
  refine a_iload q146_91 rfl ?_
  refine a_iadd q146_93 ?_
  refine a_iald' q146_94 rfl (j := 10 + c) (nI_add 10 c) (by omega) (by decide) ?_
  refine AW.ti (show upd (A 30) (10 + c) (nI (2 + u)) (10 + c) = nI (2 + u) from upd_s _ _ _) ?_
  refine a_callSW (as := [_, _, _]) q146_95 rfl rfl ⟨rfl, rfl⟩ rfl ?_
  refine q_force hT hW h18 hC hc (k234 u hu) rfl (fun I2 A2 L2 hT' hr' => ?_)
  refine ck_r ?_
  refine a_aload_n (i := 1) q146_98 rfl rfl ?_
  refine a_iload q146_99 rfl ?_
  refine a_cs2 q146_101 rfl ⟨rfl, rfl⟩ rfl ?_
  refine c_L_kind hT'.2.2.1 hT'.1 hc (tv_ok hT' c hc) ?_
  refine ck_r ?_
  refine AW.ti (nkd_e hT' hc).1 ?_
  refine a_icmp_ne (tgt := 111) q146_104 (by decide) (fun zc104 => absurd zc104 (neN rfl)) (fun zc104 => ?_)
  refine a_iconst (v := 1) q146_107 (by decide) ?_
  refine a_goto (tgt := 112) q146_108 (by decide) ?_
  refine a_ireturn q146_112 (nr_bool rfl (by decide)) ?_
  exact hq _ _ _ hr'

theorem set_1 {X : XS} {I : Nat → Int32} {A : Nat → Nat → Int32} {L : Nat → Nat → Int64} {Q : AO → AH → Prop} {i c : Nat} (hX : X.1.1 ≤ 260) (hi : i < 800000) (hc : c < 6) (hr : RelL I A L) (hq : ∀ I' A' L', RelL I' A' L' → Q (.inl (some (.int 1))) (hp I' A' L' [])) : AW X 146 113 [(0, .ref 1), (1, .ref 0), (2, .ref 1003), (3, .int (nI i)), (4, .int (nI c))] [] (hp I A L []) 25 150 Q := by
  obtain ⟨n, hT, hW, h18, hC⟩ := id hr
  have h40 := hT.1
  have h10 : A 30 (10 + c) = 0 ∨ 0 < A 30 (10 + c) := by
    rcases hT.2.2.2.2.1 c hc with ⟨-, z2⟩ | ⟨-, z2⟩
    · exact Or.inl z2
    · rcases z2 with z | z | z <;> rw [z] <;> exact Or.inr (by decide)
  refine AW.cut 128 (b2i (¬ A 30 (10 + c) = 0)) (fun zk128 => ?_) ?_
  · skip
    refine a_aload_n (i := 1) q146_113 rfl rfl ?_
    refine a_bipush (v := 10) q146_114 (by decide) ?_
    refine a_iload q146_116 rfl ?_
    refine a_iadd q146_118 ?_
    refine a_iald' q146_119 rfl (j := 10 + c) (nI_add 10 c) (by omega) (by decide) ?_
    refine a_if_le (tgt := 127) q146_120 (by decide) (fun zc120 => ?_) (fun zc120 => ?_)
    · skip
      refine a_iconst (v := 0) q146_127 (by decide) ?_
      exact cutv zk128 (b2i_f (fun zz => zz (h10.resolve_right (i_nlt.mpr zc120))))
    · skip
      refine a_iconst (v := 1) q146_123 (by decide) ?_
      refine a_goto (tgt := 128) q146_124 (by decide) ?_
      exact cutv zk128 (b2i_t (fun zz => zc120 (by rw [zz]; decide)))
  refine a_istore (i := 5) (lv' := [(0, _), (1, _), (2, _), (3, _), (4, _), (5, _)]) q146_128 rfl rfl ?_
  refine a_aload_n (i := 1) q146_130 rfl rfl ?_
  refine a_bipush (v := 10) q146_131 (by decide) ?_
  refine a_iload q146_133 rfl ?_
  refine a_iadd q146_135 ?_
  refine a_iconst (v := 0) q146_136 (by decide) ?_
  refine a_iast' q146_137 rfl (j := 10 + c) (nI_add 10 c) (by omega) (by decide) (h' := hp I (va_up A 30 (upd (A 30) (10 + c) 0)) L []) rfl ?_
  refine a_aload_n (i := 0) q146_138 rfl rfl ?_
  refine a_iload q146_139 rfl ?_
  refine a_callSW (as := [_, _]) q146_141 rfl rfl ⟨rfl, rfl⟩ rfl ?_
  refine q_unforce hT hW h18 hC hc rfl (fun h0 hr' => ?_) (fun h0 I2 A2 L2 hT' hr' => ?_)
  · skip
    refine ck_r ?_
    refine a_iload q146_144 rfl ?_
    refine a_if_eq (tgt := 158) q146_146 (by decide) (fun zc146 => ?_) (fun zc146 => absurd (b2i_f (fun zz => zz h0)) zc146)
    refine a_ldc1 (v := (-900002)) q146_158 (by decide) ?_
    refine a_icmp_ne (tgt := 167) q146_160 (by decide) (fun zc160 => absurd zc160 (neN rfl)) (fun zc160 => ?_)
    refine a_iconst (v := 1) q146_163 (by decide) ?_
    refine a_goto (tgt := 168) q146_164 (by decide) ?_
    refine a_ireturn q146_168 (nr_bool rfl (by decide)) ?_
    exact hq _ _ _ hr'
  · skip
    refine ck_r ?_
    refine a_iload q146_144 rfl ?_
    refine a_if_eq (tgt := 158) q146_146 (by decide) (fun zc146 => absurd zc146 (b2i_nz.mpr h0)) (fun zc146 => ?_)
    refine a_aload_n (i := 1) q146_149 rfl rfl ?_
    refine a_iload q146_150 rfl ?_
    refine a_cs2 q146_152 rfl ⟨rfl, rfl⟩ rfl ?_
    refine c_L_kind hT'.2.2.1 hT'.1 hc (tv_ok hT' c hc) ?_
    refine ck_r ?_
    refine AW.ti (nkd_e hT' hc).1 ?_
    refine a_goto (tgt := 160) q146_155 (by decide) ?_
    refine a_icmp_ne (tgt := 167) q146_160 (by decide) (fun zc160 => absurd zc160 (neN rfl)) (fun zc160 => ?_)
    refine a_iconst (v := 1) q146_163 (by decide) ?_
    refine a_goto (tgt := 168) q146_164 (by decide) ?_
    refine a_ireturn q146_168 (nr_bool rfl (by decide)) ?_
    exact hq _ _ _ hr'

theorem l_c6 (m9 : Nat) : ∀ {X : XS} {I : Nat → Int32} {A : Nat → Nat → Int32} {L : Nat → Nat → Int64} {Q : AO → AH → Prop} {i c k bc bs : Nat} (hg : ∀ e, e < 6 → A 30 (30 + e) = 0 ∨ A 30 (30 + e) = 1) (hm : k + m9 = 6) (kk : AW X 146 223 [(0, .ref 1), (1, .ref 0), (2, .ref 1003), (3, .int (nI i)), (4, .int (nI c)), (5, .int (cntB (fun e => A 30 (30 + e)) 6))] [] (hp I A L []) bc bs Q), AW X 146 198 [(0, .ref 1), (1, .ref 0), (2, .ref 1003), (3, .int (nI i)), (4, .int (nI c)), (5, .int (cntB (fun e => A 30 (30 + e)) k)), (6, .int (nI k))] [] (hp I A L []) (bc) (bs) Q := by
  induction m9 with
  | zero =>
    intro X I A L Q i c k bc bs hg hm kk
    refine a_iload q146_198 rfl ?_
    refine a_bipush (v := 6) q146_200 (by decide) ?_
    refine a_icmp_ge (tgt := 223) q146_202 (by decide) (fun zc202 => ?_) (fun zc202 => absurd (nI_le (show 6 ≤ k by omega) (by omega)) zc202)
    refine AW.pop_less (x := (6, _)) (lv' := [(0, _), (1, _), (2, _), (3, _), (4, _), (5, _)]) ?_
    have e : k = 6 := by omega
    subst e; exact kk
  | succ m9 ih =>
    intro X I A L Q i c k bc bs hg hm kk
    refine a_iload q146_198 rfl ?_
    refine a_bipush (v := 6) q146_200 (by decide) ?_
    refine a_icmp_ge (tgt := 223) q146_202 (by decide) (fun zc202 => absurd zc202 (nI_ge (show k < 6 by omega) (by decide))) (fun zc202 => ?_)
    refine a_iload q146_205 rfl ?_
    refine a_aload_n (i := 1) q146_207 rfl rfl ?_
    refine a_bipush (v := 30) q146_208 (by decide) ?_
    refine a_iload q146_210 rfl ?_
    refine a_iadd q146_212 ?_
    refine a_iald' q146_213 rfl (j := 30 + k) (nI_add 30 k) (by omega) (by decide) ?_
    refine a_iadd q146_214 ?_
    refine AW.ti (cnt_s (g := fun e => A 30 (30 + e)) (hg k (by omega))) ?_
    refine a_istore (i := 5) (lv' := [(0, _), (1, _), (2, _), (3, _), (4, _), (5, _), (6, _)]) q146_215 rfl rfl ?_
    refine a_iinc (v := nI (k + 1)) (lv' := [(0, _), (1, _), (2, _), (3, _), (4, _), (5, _), (6, _)]) q146_217 rfl rfl (nI_1 (k)) rfl ?_
    refine a_goto (tgt := 198) q146_220 (by decide) ?_
    exact ih hg (show k + 1 + m9 = 6 by omega) kk

theorem set_2 {X : XS} {I : Nat → Int32} {A : Nat → Nat → Int32} {L : Nat → Nat → Int64} {Q : AO → AH → Prop} {i c : Nat} (hX : X.1.1 ≤ 260) (hi : i < 800000) (hc : c < 6) (hr : RelL I A L) (hq : ∀ I' A' L', RelL I' A' L' → Q (.inl (some (.int 1))) (hp I' A' L' [])) : AW X 146 169 [(0, .ref 1), (1, .ref 0), (2, .ref 1003), (3, .int (nI i)), (4, .int (nI c))] [] (hp I A L []) 25 150 Q := by
  obtain ⟨n, hT, hW, h18, hC⟩ := id hr
  have h40 := hT.1
  refine a_aload_n (i := 1) q146_169 rfl rfl ?_
  refine a_bipush (v := 30) q146_170 (by decide) ?_
  refine a_iload q146_172 rfl ?_
  refine a_iadd q146_174 ?_
  refine AW.ti (nI_add 30 c) ?_
  refine a_aload_n (i := 2) q146_175 rfl rfl ?_
  refine a_iload_n (i := 3) q146_176 rfl rfl ?_
  refine a_iconst (v := 2) q146_177 (by decide) ?_
  refine a_iadd q146_178 ?_
  refine AW.ti (nI_add i 2) ?_
  refine a_iconst (v := 3) q146_179 (by decide) ?_
  refine a_cs3 q146_180 rfl ⟨rfl, rfl⟩ rfl ?_
  refine c_L_in hX (i := i + 2) (m := 3) (by omega) (by omega) (by omega) (fun u hu => ?_)
  refine ck_r ?_
  refine AW.cutS 191 (b2i (nI u = 0)) (fun zk191 => ?_) ?_
  · skip
    refine a_if_ne (tgt := 190) q146_183 (by decide) (fun zc183 => ?_) (fun zc183 => ?_)
    · skip
      refine a_iconst (v := 0) q146_190 (by decide) ?_
      exact cutv zk191 (by unfold b2i; split <;> simp_all)
    · skip
      refine a_iconst (v := 1) q146_186 (by decide) ?_
      refine a_goto (tgt := 191) q146_187 (by decide) ?_
      exact cutv zk191 (by unfold b2i; split <;> simp_all)
  refine a_iast' q146_191 rfl (j := 30 + c) rfl (by omega) (by decide) (h' := hp I (va_up A 30 (upd (A 30) (30 + c) (b2i (nI u = 0)))) L []) rfl ?_
  refine a_iconst (v := 0) q146_192 (by decide) ?_
  refine a_istore (i := 5) (lv' := [(0, _), (1, _), (2, _), (3, _), (4, _), (5, _)]) q146_193 rfl rfl ?_
  refine a_iconst (v := 0) q146_195 (by decide) ?_
  refine a_istore (i := 6) (lv' := [(0, _), (1, _), (2, _), (3, _), (4, _), (5, _), (6, _)]) q146_196 rfl rfl ?_
  refine l_c6 6 (A := (va_up A 30 (upd (A 30) (30 + c) (b2i (nI u = 0))))) (k := 0) (fun e he => ?_) rfl ?_
  · show upd (A 30) (30 + c) (b2i (nI u = 0)) (30 + e) = 0 ∨ upd (A 30) (30 + c) (b2i (nI u = 0)) (30 + e) = 1
    rw [upd_at]; split
    · exact b2i_01
    · exact hW.2.1 e he
  refine a_aload_n (i := 0) q146_223 rfl rfl ?_
  refine a_iload q146_224 rfl ?_
  refine AW.cut 242 ((b2i (nI u = 0))) (fun zk242 => ?_) ?_
  · skip
    refine a_aload_n (i := 1) q146_226 rfl rfl ?_
    refine a_bipush (v := 30) q146_227 (by decide) ?_
    refine a_iload q146_229 rfl ?_
    refine a_iadd q146_231 ?_
    refine a_iald' q146_232 rfl (j := 30 + c) (nI_add 30 c) (by omega) (by decide) ?_
    refine AW.ti (show upd (A 30) (30 + c) (b2i (nI u = 0)) (30 + c) = (b2i (nI u = 0)) from upd_s _ _ _) ?_
    refine a_iconst (v := 1) q146_233 (by decide) ?_
    refine a_icmp_ne (tgt := 241) q146_234 (by decide) (fun zc234 => ?_) (fun zc234 => ?_)
    · skip
      refine a_iconst (v := 0) q146_241 (by decide) ?_
      exact cutv zk242 (b2i_n1 zc234)
    · skip
      refine a_iconst (v := 1) q146_237 (by decide) ?_
      refine a_goto (tgt := 242) q146_238 (by decide) ?_
      exact cutv zk242 (zc234)
  refine a_callSW (as := [_, _, _]) q146_242 rfl rfl ⟨rfl, rfl⟩ rfl ?_
  refine q_wish hT hW h18 hC hc b2i_01 rfl (fun I2 hr' => ?_)
  refine ck_r ?_
  refine a_iload q146_245 rfl ?_
  refine a_icmp_ne (tgt := 254) q146_247 (by decide) (fun zc247 => absurd zc247 (neN rfl)) (fun zc247 => ?_)
  refine a_iconst (v := 1) q146_250 (by decide) ?_
  refine a_goto (tgt := 255) q146_251 (by decide) ?_
  refine a_ireturn q146_255 (nr_bool rfl (by decide)) ?_
  exact hq _ _ _ hr'

def mkV (u : Nat) : Int32 := if nI u = 0 then 98 else if nI u = 1 then 108 else if nI u = 2 then 112 else 45
theorem mkV_ok (u : Nat) : isMk (mkV u) ∨ mkV u = 45 := by
  unfold mkV
  split
  · exact Or.inl (Or.inl rfl)
  · split
    · exact Or.inl (Or.inr (Or.inl rfl))
    · split
      · exact Or.inl (Or.inr (Or.inr rfl))
      · exact Or.inr rfl
theorem i2c_mk {m : Int32} (h : isMk m ∨ m = 45) : (m.toUInt32 % 65536).toInt32 = m := by
  rcases h with (rfl | rfl | rfl) | rfl <;> decide
theorem set_3 {X : XS} {I : Nat → Int32} {A : Nat → Nat → Int32} {L : Nat → Nat → Int64} {Q : AO → AH → Prop} {i c : Nat} (hX : X.1.1 ≤ 260) (hi : i < 800000) (hc : c < 6) (hr : RelL I A L) (hq : ∀ I' A' L', RelL I' A' L' → Q (.inl (some (.int 1))) (hp I' A' L' [])) : AW X 146 256 [(0, .ref 1), (1, .ref 0), (2, .ref 1003), (3, .int (nI i)), (4, .int (nI c))] [] (hp I A L []) 25 150 Q := by
  obtain ⟨n, hT, hW, h18, hC⟩ := id hr
  have h40 := hT.1
  refine a_aload_n (i := 1) q146_256 rfl rfl ?_
  refine a_iconst (v := 1) q146_257 (by decide) ?_
  refine a_iald' q146_258 rfl (j := 1) rfl (by omega) (by decide) ?_
  refine a_istore (i := 5) (lv' := [(0, _), (1, _), (2, _), (3, _), (4, _), (5, _)]) q146_259 rfl rfl ?_
  refine a_aload_n (i := 2) q146_261 rfl rfl ?_
  refine a_iload_n (i := 3) q146_262 rfl rfl ?_
  refine a_iconst (v := 2) q146_263 (by decide) ?_
  refine a_iadd q146_264 ?_
  refine AW.ti (nI_add i 2) ?_
  refine a_iconst (v := 5) q146_265 (by decide) ?_
  refine a_cs3 q146_266 rfl ⟨rfl, rfl⟩ rfl ?_
  refine c_L_in hX (i := i + 2) (m := 5) (by omega) (by omega) (by omega) (fun u hu => ?_)
  refine ck_r ?_
  refine a_istore (i := 6) (lv' := [(0, _), (1, _), (2, _), (3, _), (4, _), (5, _), (6, _)]) q146_269 rfl rfl ?_
  refine a_aload_n (i := 1) q146_271 rfl rfl ?_
  refine a_iconst (v := 1) q146_272 (by decide) ?_
  refine AW.cut 307 (mkV u) (fun zk307 => ?_) ?_
  · skip
    refine a_iload q146_273 rfl ?_
    refine a_if_ne (tgt := 283) q146_275 (by decide) (fun zc275 => ?_) (fun zc275 => ?_)
    · skip
      refine a_iload q146_283 rfl ?_
      refine a_iconst (v := 1) q146_285 (by decide) ?_
      refine a_icmp_ne (tgt := 294) q146_286 (by decide) (fun zc286 => ?_) (fun zc286 => ?_)
      · skip
        refine a_iload q146_294 rfl ?_
        refine a_iconst (v := 2) q146_296 (by decide) ?_
        refine a_icmp_ne (tgt := 305) q146_297 (by decide) (fun zc297 => ?_) (fun zc297 => ?_)
        · skip
          refine a_bipush (v := 45) q146_305 (by decide) ?_
          exact cutv zk307 (by unfold mkV; rw [if_neg zc275, if_neg zc286, if_neg zc297])
        · skip
          refine a_bipush (v := 112) q146_300 (by decide) ?_
          refine a_goto (tgt := 307) q146_302 (by decide) ?_
          exact cutv zk307 (by unfold mkV; rw [if_neg zc275, if_neg zc286, if_pos zc297])
      · skip
        refine a_bipush (v := 108) q146_289 (by decide) ?_
        refine a_goto (tgt := 307) q146_291 (by decide) ?_
        exact cutv zk307 (by unfold mkV; rw [if_neg zc275, if_pos zc286])
    · skip
      refine a_bipush (v := 98) q146_278 (by decide) ?_
      refine a_goto (tgt := 307) q146_280 (by decide) ?_
      exact cutv zk307 (if_pos zc275)
  refine a_iast' q146_307 rfl (j := 1) rfl (by omega) (by decide) (h' := hp I (va_up A 30 (upd (A 30) (1) (mkV u))) L []) rfl ?_
  refine a_aload_n (i := 0) q146_308 rfl rfl ?_
  refine a_aload_n (i := 1) q146_309 rfl rfl ?_
  refine a_iconst (v := 1) q146_310 (by decide) ?_
  refine a_iald' q146_311 rfl (j := 1) rfl (by omega) (by decide) ?_
  refine AW.ti (show upd (A 30) 1 (mkV u) 1 = mkV u from upd_s _ _ _) ?_
  refine a_i2c q146_312 ?_
  refine AW.ti (i2c_mk (mkV_ok u)) ?_
  refine a_callSW (as := [_, _]) q146_313 rfl rfl ⟨rfl, rfl⟩ rfl ?_
  refine q_wishMark hT hW h18 hC (mkV_ok u) rfl (fun I2 hr' => ?_)
  refine ck_r ?_
  refine a_iload q146_316 rfl ?_
  refine a_icmp_ne (tgt := 325) q146_318 (by decide) (fun zc318 => absurd zc318 (neN rfl)) (fun zc318 => ?_)
  refine a_iconst (v := 1) q146_321 (by decide) ?_
  refine a_goto (tgt := 326) q146_322 (by decide) ?_
  refine a_ireturn q146_326 (nr_bool rfl (by decide)) ?_
  exact hq _ _ _ hr'

theorem set_4 {X : XS} {I : Nat → Int32} {A : Nat → Nat → Int32} {L : Nat → Nat → Int64} {Q : AO → AH → Prop} {i c : Nat} (hX : X.1.1 ≤ 260) (hi : i < 800000) (hc : c < 6) (hr : RelL I A L) (hq : ∀ I' A' L', RelL I' A' L' → Q (.inl (some (.int 1))) (hp I' A' L' [])) : AW X 146 327 [(0, .ref 1), (1, .ref 0), (2, .ref 1003), (3, .int (nI i)), (4, .int (nI c))] [] (hp I A L []) 25 150 Q := by
  obtain ⟨n, hT, hW, h18, hC⟩ := id hr
  have h40 := hT.1
  refine a_aload_n (i := 0) q146_327 rfl rfl ?_
  refine a_aload_n (i := 1) q146_328 rfl rfl ?_
  refine a_iload q146_329 rfl ?_
  refine a_aload_n (i := 2) q146_331 rfl rfl ?_
  refine a_iload_n (i := 3) q146_332 rfl rfl ?_
  refine a_iconst (v := 2) q146_333 (by decide) ?_
  refine a_iadd q146_334 ?_
  refine AW.ti (nI_add i 2) ?_
  refine a_iconst (v := 4) q146_335 (by decide) ?_
  refine a_cs3 q146_336 rfl ⟨rfl, rfl⟩ rfl ?_
  refine c_L_in hX (i := i + 2) (m := 4) (by omega) (by omega) (by omega) (fun j hj => ?_)
  refine ck_r ?_
  refine a_aload_n (i := 2) q146_339 rfl rfl ?_
  refine a_iload_n (i := 3) q146_340 rfl rfl ?_
  refine a_iconst (v := 3) q146_341 (by decide) ?_
  refine a_iadd q146_342 ?_
  refine AW.ti (nI_add i 3) ?_
  refine a_iconst (v := 3) q146_343 (by decide) ?_
  refine a_cs3 q146_344 rfl ⟨rfl, rfl⟩ rfl ?_
  refine c_L_in hX (i := i + 3) (m := 3) (by omega) (by omega) (by omega) (fun u hu => ?_)
  refine ck_r ?_
  refine AW.cutS 355 (b2i (¬ nI u ≤ 0)) (fun zk355 => ?_) ?_
  · skip
    refine a_if_le (tgt := 354) q146_347 (by decide) (fun zc347 => ?_) (fun zc347 => ?_)
    · skip
      refine a_iconst (v := 0) q146_354 (by decide) ?_
      exact cutv zk355 (by unfold b2i; split <;> simp_all)
    · skip
      refine a_iconst (v := 1) q146_350 (by decide) ?_
      refine a_goto (tgt := 355) q146_351 (by decide) ?_
      exact cutv zk355 (by unfold b2i; split <;> simp_all)
  refine a_cs5 q146_355 rfl ⟨rfl, rfl⟩ rfl ?_
  refine c_L_isForbidden hc hj b2i_01 hr (fun I2 A2 L2 hr' => ?_)
  refine ck_r ?_
  refine a_ireturn q146_358 (nr_bool rfl (by decide)) ?_
  exact hq _ _ _ hr'

theorem set_6 {X : XS} {I : Nat → Int32} {A : Nat → Nat → Int32} {L : Nat → Nat → Int64} {Q : AO → AH → Prop} {i c : Nat} (hX : X.1.1 ≤ 260) (hi : i < 800000) (hc : c < 6) (hr : RelL I A L) (hq : ∀ I' A' L', RelL I' A' L' → Q (.inl (some (.int 1))) (hp I' A' L' [])) : AW X 146 359 [(0, .ref 1), (1, .ref 0), (2, .ref 1003), (3, .int (nI i)), (4, .int (nI c))] [] (hp I A L []) 25 150 Q := by
  obtain ⟨n, hT, hW, h18, hC⟩ := id hr
  have h40 := hT.1
  refine a_aload_n (i := 2) q146_359 rfl rfl ?_
  refine a_iload_n (i := 3) q146_360 rfl rfl ?_
  refine a_iconst (v := 1) q146_361 (by decide) ?_
  refine a_iadd q146_362 ?_
  refine AW.ti (nI_add i 1) ?_
  refine a_bipush (v := 8) q146_363 (by decide) ?_
  refine a_cs3 q146_365 rfl ⟨rfl, rfl⟩ rfl ?_
  refine c_L_in hX (i := i + 1) (m := 8) (by omega) (by omega) (by omega) (fun j hj => ?_)
  refine ck_r ?_
  refine a_istore (i := 5) (lv' := [(0, _), (1, _), (2, _), (3, _), (4, _), (5, _)]) q146_368 rfl rfl ?_
  refine a_aload_n (i := 1) q146_370 rfl rfl ?_
  refine a_bipush (v := 20) q146_371 (by decide) ?_
  refine a_iload q146_373 rfl ?_
  refine a_iadd q146_375 ?_
  refine a_iald' q146_376 rfl (j := 20 + j) (nI_add 20 j) (by omega) (by decide) ?_
  refine a_istore (i := 6) (lv' := [(0, _), (1, _), (2, _), (3, _), (4, _), (5, _), (6, _)]) q146_377 rfl rfl ?_
  refine a_aload_n (i := 1) q146_379 rfl rfl ?_
  refine a_bipush (v := 20) q146_380 (by decide) ?_
  refine a_iload q146_382 rfl ?_
  refine a_iadd q146_384 ?_
  refine AW.ti (nI_add 20 j) ?_
  refine a_aload_n (i := 2) q146_385 rfl rfl ?_
  refine a_iload_n (i := 3) q146_386 rfl rfl ?_
  refine a_iconst (v := 2) q146_387 (by decide) ?_
  refine a_iadd q146_388 ?_
  refine AW.ti (nI_add i 2) ?_
  refine a_bipush (v := 12) q146_389 (by decide) ?_
  refine a_cs3 q146_391 rfl ⟨rfl, rfl⟩ rfl ?_
  refine c_L_in hX (i := i + 2) (m := 12) (by omega) (by omega) (by omega) (fun u hu => ?_)
  refine ck_r ?_
  refine a_iast' q146_394 rfl (j := 20 + j) rfl (by omega) (by decide) (h' := hp I (va_up A 30 (upd (A 30) (20 + j) (nI u))) L []) rfl ?_
  refine a_aload_n (i := 0) q146_395 rfl rfl ?_
  refine a_iload q146_396 rfl ?_
  refine a_aload_n (i := 1) q146_398 rfl rfl ?_
  refine a_bipush (v := 20) q146_399 (by decide) ?_
  refine a_iload q146_401 rfl ?_
  refine a_iadd q146_403 ?_
  refine a_iald' q146_404 rfl (j := 20 + j) (nI_add 20 j) (by omega) (by decide) ?_
  refine AW.ti (show upd (A 30) (20 + j) (nI u) (20 + j) = nI u from upd_s _ _ _) ?_
  refine a_callSW (as := [_, _, _]) q146_405 rfl rfl ⟨rfl, rfl⟩ rfl ?_
  refine q_setWeight hT hW h18 hC hj ⟨nI_pos' (by omega), nI_le (b := 99) (by omega) (by decide)⟩ rfl (fun I2 A2 hr' => ?_)
  refine ck_r ?_
  refine a_iload q146_408 rfl ?_
  refine a_icmp_ne (tgt := 417) q146_410 (by decide) (fun zc410 => absurd zc410 (neN rfl)) (fun zc410 => ?_)
  refine a_iconst (v := 1) q146_413 (by decide) ?_
  refine a_goto (tgt := 418) q146_414 (by decide) ?_
  refine a_ireturn q146_418 (nr_bool rfl (by decide)) ?_
  exact hq _ _ _ hr'

theorem no_row {n : Nat} {I : Nat → Int32} {A : Nat → Nat → Int32} {L : Nat → Nat → Int64} (hT : Tbl n I A L) (h0 : n = 0) (r : Int32) : ¬ isRow I r := by
  intro h
  have h2 := h.2.1
  rw [hT.2.1, h0] at h2
  exact absurd h.1 (i_nle.mpr h2)
theorem set_7 {X : XS} {I : Nat → Int32} {A : Nat → Nat → Int32} {L : Nat → Nat → Int64} {Q : AO → AH → Prop} {i c : Nat} (hX : X.1.1 ≤ 260) (hi : i < 800000) (hc : c < 6) (hr : RelL I A L) (hq : ∀ I' A' L', RelL I' A' L' → Q (.inl (some (.int 1))) (hp I' A' L' [])) : AW X 146 419 [(0, .ref 1), (1, .ref 0), (2, .ref 1003), (3, .int (nI i)), (4, .int (nI c))] [] (hp I A L []) 25 150 Q := by
  obtain ⟨n, hT, hW, h18, hC⟩ := id hr
  have h40 := hT.1
  refine a_aload_n (i := 1) q146_419 rfl rfl ?_
  refine a_iconst (v := 0) q146_420 (by decide) ?_
  refine a_iald' q146_421 rfl (j := 0) rfl (by omega) (by decide) ?_
  refine AW.ti (hT.2.2.1) ?_
  refine a_if_ne (tgt := 441) q146_422 (by decide) (fun zc422 => ?_) (fun zc422 => ?_)
  · skip
    have hn0 : 0 < n := Nat.pos_of_ne_zero (fun zz => zc422 (by rw [zz]; rfl))
    refine a_aload_n (i := 2) q146_441 rfl rfl ?_
    refine a_iload_n (i := 3) q146_442 rfl rfl ?_
    refine a_iconst (v := 2) q146_443 (by decide) ?_
    refine a_iadd q146_444 ?_
    refine AW.ti (nI_add i 2) ?_
    refine a_aload_n (i := 1) q146_445 rfl rfl ?_
    refine a_iconst (v := 0) q146_446 (by decide) ?_
    refine a_iald' q146_447 rfl (j := 0) rfl (by omega) (by decide) ?_
    refine AW.ti (hT.2.2.1) ?_
    refine a_cs3 q146_448 rfl ⟨rfl, rfl⟩ rfl ?_
    refine c_L_in hX (i := i + 2) (m := n) (by omega) hn0 (by have := hT.1; omega) (fun r hr7 => ?_)
    refine ck_r ?_
    refine a_istore (i := 5) (lv' := [(0, _), (1, _), (2, _), (3, _), (4, _), (5, _)]) q146_451 rfl rfl ?_
    refine a_aload_n (i := 1) q146_453 rfl rfl ?_
    refine a_iload q146_454 rfl ?_
    refine a_iload q146_456 rfl ?_
    refine a_cs3 q146_458 rfl ⟨rfl, rfl⟩ rfl ?_
    refine c_L_value (show r < 40 by have := hT.1; omega) hc ?_
    refine ck_r ?_
    refine a_istore (i := 6) (lv' := [(0, _), (1, _), (2, _), (3, _), (4, _), (5, _), (6, _)]) q146_461 rfl rfl ?_
    refine a_aload_n (i := 1) q146_463 rfl rfl ?_
    refine a_bipush (v := 100) q146_464 (by decide) ?_
    refine a_bipush (v := 6) q146_466 (by decide) ?_
    refine a_iload q146_468 rfl ?_
    refine a_imul q146_470 ?_
    refine a_iadd q146_471 ?_
    refine a_iload q146_472 rfl ?_
    refine a_iadd q146_474 ?_
    refine AW.ti (nI_v r c) ?_
    refine a_aload_n (i := 2) q146_475 rfl rfl ?_
    refine a_iload_n (i := 3) q146_476 rfl rfl ?_
    refine a_iconst (v := 3) q146_477 (by decide) ?_
    refine a_iadd q146_478 ?_
    refine AW.ti (nI_add i 3) ?_
    refine a_iconst (v := 4) q146_479 (by decide) ?_
    refine a_cs3 q146_480 rfl ⟨rfl, rfl⟩ rfl ?_
    refine c_L_in hX (i := i + 3) (m := 4) (by omega) (by omega) (by omega) (fun u hu => ?_)
    refine ck_r ?_
    refine a_if_ne (tgt := 492) q146_483 (by decide) (fun zc483 => ?_) (fun zc483 => ?_)
    · skip
      refine a_aload_n (i := 2) q146_492 rfl rfl ?_
      refine a_iload_n (i := 3) q146_493 rfl rfl ?_
      refine a_iconst (v := 4) q146_494 (by decide) ?_
      refine a_iadd q146_495 ?_
      refine AW.ti (nI_add i 4) ?_
      refine a_bipush (v := 30) q146_496 (by decide) ?_
      refine a_cs3 q146_498 rfl ⟨rfl, rfl⟩ rfl ?_
      refine c_L_in hX (i := i + 4) (m := 30) (by omega) (by omega) (by omega) (fun w hw => ?_)
      refine ck_r ?_
      refine a_iast' q146_501 rfl (j := 100 + (6 * r + c)) rfl (by omega) (by decide) (h' := hp I (va_up A 30 (upd (A 30) (100 + (6 * r + c)) (nI w))) L []) rfl ?_
      refine a_aload_n (i := 0) q146_502 rfl rfl ?_
      refine a_iload q146_503 rfl ?_
      refine a_iload q146_505 rfl ?_
      refine a_aload_n (i := 1) q146_507 rfl rfl ?_
      refine a_bipush (v := 100) q146_508 (by decide) ?_
      refine a_bipush (v := 6) q146_510 (by decide) ?_
      refine a_iload q146_512 rfl ?_
      refine a_imul q146_514 ?_
      refine a_iadd q146_515 ?_
      refine a_iload q146_516 rfl ?_
      refine a_iadd q146_518 ?_
      refine a_iald' q146_519 rfl (j := 100 + (6 * r + c)) (nI_v r c) (by omega) (by decide) ?_
      refine AW.ti (show upd (A 30) (100 + (6 * r + c)) (nI w) (100 + (6 * r + c)) = (nI w) from upd_s _ _ _) ?_
      refine a_callSW (as := [_, _, _, _]) q146_520 rfl rfl ⟨rfl, rfl⟩ rfl ?_
      refine q_put hT hW h18 hC hr7 hc (val_n (by omega)) rfl (fun I2 A2 L2 hr' => ?_)
      refine ck_r ?_
      refine a_iload q146_523 rfl ?_
      refine a_icmp_ne (tgt := 532) q146_525 (by decide) (fun zc525 => absurd zc525 (neN rfl)) (fun zc525 => ?_)
      refine a_iconst (v := 1) q146_528 (by decide) ?_
      refine a_goto (tgt := 533) q146_529 (by decide) ?_
      refine a_ireturn q146_533 (nr_bool rfl (by decide)) ?_
      exact hq _ _ _ hr'
    · skip
      refine a_sipush (v := (-10000)) q146_486 (by decide) ?_
      refine a_goto (tgt := 501) q146_489 (by decide) ?_
      refine a_iast' q146_501 rfl (j := 100 + (6 * r + c)) rfl (by omega) (by decide) (h' := hp I (va_up A 30 (upd (A 30) (100 + (6 * r + c)) (-10000))) L []) rfl ?_
      refine a_aload_n (i := 0) q146_502 rfl rfl ?_
      refine a_iload q146_503 rfl ?_
      refine a_iload q146_505 rfl ?_
      refine a_aload_n (i := 1) q146_507 rfl rfl ?_
      refine a_bipush (v := 100) q146_508 (by decide) ?_
      refine a_bipush (v := 6) q146_510 (by decide) ?_
      refine a_iload q146_512 rfl ?_
      refine a_imul q146_514 ?_
      refine a_iadd q146_515 ?_
      refine a_iload q146_516 rfl ?_
      refine a_iadd q146_518 ?_
      refine a_iald' q146_519 rfl (j := 100 + (6 * r + c)) (nI_v r c) (by omega) (by decide) ?_
      refine AW.ti (show upd (A 30) (100 + (6 * r + c)) (-10000) (100 + (6 * r + c)) = (-10000) from upd_s _ _ _) ?_
      refine a_callSW (as := [_, _, _, _]) q146_520 rfl rfl ⟨rfl, rfl⟩ rfl ?_
      refine q_put hT hW h18 hC hr7 hc (Or.inl rfl) rfl (fun I2 A2 L2 hr' => ?_)
      refine ck_r ?_
      refine a_iload q146_523 rfl ?_
      refine a_icmp_ne (tgt := 532) q146_525 (by decide) (fun zc525 => absurd zc525 (neN rfl)) (fun zc525 => ?_)
      refine a_iconst (v := 1) q146_528 (by decide) ?_
      refine a_goto (tgt := 533) q146_529 (by decide) ?_
      refine a_ireturn q146_533 (nr_bool rfl (by decide)) ?_
      exact hq _ _ _ hr'
  · skip
    refine a_aload_n (i := 0) q146_425 rfl rfl ?_
    refine a_iconst (v := 0) q146_426 (by decide) ?_
    refine a_callSW (as := [_, _]) q146_427 rfl rfl ⟨rfl, rfl⟩ rfl ?_
    refine c_L_dropRow (hn := hT.2.1) (hn40 := hT.1) (h1 := fun _ => ?_) (h2 := fun _ _ _ em _ => absurd em (by have := (nI_eq (a := n) (b := 0) (by have := hT.1; omega) (by decide)).mp zc422; omega))
    refine ck_r ?_
    refine a_ldc1 (v := (-900001)) q146_430 (by decide) ?_
    refine a_icmp_ne (tgt := 439) q146_432 (by decide) (fun zc432 => absurd zc432 (neN rfl)) (fun zc432 => ?_)
    refine a_iconst (v := 1) q146_435 (by decide) ?_
    refine a_goto (tgt := 440) q146_436 (by decide) ?_
    refine a_ireturn q146_440 (nr_bool rfl (by decide)) ?_
    exact hq _ _ _ hr

theorem nI_v0 (r : Nat) : (100 : Int32) + 6 * nI r = nI (100 + 6 * r) := by
  rw [show (6 : Int32) = nI 6 from rfl, pk_mul, show (100 : Int32) = nI 100 from rfl, nI_add]
theorem l_shift (m9 : Nat) : ∀ {X : XS} {I : Nat → Int32} {A : Nat → Nat → Int32} {L : Nat → Nat → Int64} {Q : AO → AH → Prop} {f : Nat → Int32} {v5 : Int32} {i c k m bc bs : Nat} (h0 : f 0 = nI m) (hm40 : m < 40) (hk : 100 ≤ k) (hm : k + m9 = 100 + 6 * m) (kk : AW X 146 618 [(0, .ref 1), (1, .ref 0), (2, .ref 1003), (3, .int (nI i)), (4, .int (nI c)), (5, .int v5)] [] (hp I (va_up A 30 (mDrp f k m9)) L []) bc bs Q), AW X 146 587 [(0, .ref 1), (1, .ref 0), (2, .ref 1003), (3, .int (nI i)), (4, .int (nI c)), (5, .int v5), (6, .int (nI k))] [] (hp I (va_up A 30 f) L []) (bc) (bs) Q := by
  induction m9 with
  | zero =>
    intro X I A L Q f v5 i c k m bc bs h0 hm40 hk hm kk
    refine a_iload q146_587 rfl ?_
    refine a_bipush (v := 100) q146_589 (by decide) ?_
    refine a_bipush (v := 6) q146_591 (by decide) ?_
    refine a_aload_n (i := 1) q146_593 rfl rfl ?_
    refine a_iconst (v := 0) q146_594 (by decide) ?_
    refine a_iald' q146_595 rfl (j := 0) rfl (by omega) (by decide) ?_
    refine AW.ti (h0) ?_
    refine a_imul q146_596 ?_
    refine a_iadd q146_597 ?_
    refine AW.ti (nI_v0 m) ?_
    refine a_icmp_ge (tgt := 618) q146_598 (by decide) (fun zc598 => ?_) (fun zc598 => absurd (nI_le (show 100 + 6 * m ≤ k by omega) (by omega)) zc598)
    refine AW.pop_less (x := (6, _)) (lv' := [(0, _), (1, _), (2, _), (3, _), (4, _), (5, _)]) ?_
    exact kk
  | succ m9 ih =>
    intro X I A L Q f v5 i c k m bc bs h0 hm40 hk hm kk
    refine a_iload q146_587 rfl ?_
    refine a_bipush (v := 100) q146_589 (by decide) ?_
    refine a_bipush (v := 6) q146_591 (by decide) ?_
    refine a_aload_n (i := 1) q146_593 rfl rfl ?_
    refine a_iconst (v := 0) q146_594 (by decide) ?_
    refine a_iald' q146_595 rfl (j := 0) rfl (by omega) (by decide) ?_
    refine AW.ti (h0) ?_
    refine a_imul q146_596 ?_
    refine a_iadd q146_597 ?_
    refine AW.ti (nI_v0 m) ?_
    refine a_icmp_ge (tgt := 618) q146_598 (by decide) (fun zc598 => absurd zc598 (nI_ge (show k < 100 + 6 * m by omega) (by omega))) (fun zc598 => ?_)
    refine a_aload_n (i := 1) q146_601 rfl rfl ?_
    refine a_iload q146_602 rfl ?_
    refine a_aload_n (i := 1) q146_604 rfl rfl ?_
    refine a_iload q146_605 rfl ?_
    refine a_bipush (v := 6) q146_607 (by decide) ?_
    refine a_iadd q146_609 ?_
    refine a_iald' q146_610 rfl (j := k + 6) (nI_add k 6) (by omega) (by decide) ?_
    refine a_iast' q146_611 rfl (j := k) rfl (by omega) (by decide) (h' := (hp I (va_up A 30 (upd f k (f (k + 6)))) L [])) rfl ?_
    refine a_iinc (v := nI (k + 1)) (lv' := [(0, _), (1, _), (2, _), (3, _), (4, _), (5, _), (6, _)]) q146_612 rfl rfl (nI_1 (k)) rfl ?_
    refine a_goto (tgt := 587) q146_615 (by decide) ?_
    exact ih (f := upd f k (f (k + 6))) ((upd_n (by omega)).trans h0) hm40 (by omega) (show k + 1 + m9 = 100 + 6 * m by omega) kk

theorem set_8 {X : XS} {I : Nat → Int32} {A : Nat → Nat → Int32} {L : Nat → Nat → Int64} {Q : AO → AH → Prop} {i c : Nat} (hX : X.1.1 ≤ 260) (hi : i < 800000) (hc : c < 6) (hr : RelL I A L) (hq : ∀ I' A' L', RelL I' A' L' → Q (.inl (some (.int 1))) (hp I' A' L' [])) : AW X 146 534 [(0, .ref 1), (1, .ref 0), (2, .ref 1003), (3, .int (nI i)), (4, .int (nI c))] [] (hp I A L []) 25 150 Q := by
  obtain ⟨n, hT, hW, h18, hC⟩ := id hr
  have h40 := hT.1
  refine a_aload_n (i := 1) q146_534 rfl rfl ?_
  refine a_iconst (v := 0) q146_535 (by decide) ?_
  refine a_iald' q146_536 rfl (j := 0) rfl (by omega) (by decide) ?_
  refine AW.ti (hT.2.2.1) ?_
  refine a_if_ne (tgt := 558) q146_537 (by decide) (fun zc537 => ?_) (fun zc537 => ?_)
  · skip
    obtain ⟨m, em⟩ : ∃ m, n = m + 1 := ⟨n - 1, by
      have : ¬ n = 0 := fun zz => zc537 (by rw [zz]; rfl)
      omega⟩
    refine a_aload_n (i := 2) q146_558 rfl rfl ?_
    refine a_iload_n (i := 3) q146_559 rfl rfl ?_
    refine a_iconst (v := 2) q146_560 (by decide) ?_
    refine a_iadd q146_561 ?_
    refine AW.ti (nI_add i 2) ?_
    refine a_aload_n (i := 1) q146_562 rfl rfl ?_
    refine a_iconst (v := 0) q146_563 (by decide) ?_
    refine a_iald' q146_564 rfl (j := 0) rfl (by omega) (by decide) ?_
    refine AW.ti (hT.2.2.1) ?_
    refine a_cs3 q146_565 rfl ⟨rfl, rfl⟩ rfl ?_
    refine c_L_in hX (i := i + 2) (m := n) (by omega) (by omega) (by have := hT.1; omega) (fun r hr7 => ?_)
    refine ck_r ?_
    refine a_istore (i := 5) (lv' := [(0, _), (1, _), (2, _), (3, _), (4, _), (5, _)]) q146_568 rfl rfl ?_
    refine a_aload_n (i := 1) q146_570 rfl rfl ?_
    refine a_iconst (v := 0) q146_571 (by decide) ?_
    refine a_dup2 q146_572 rfl rfl ?_
    refine a_iald' q146_573 rfl (j := 0) rfl (by omega) (by decide) ?_
    refine AW.ti (show _ = nI (m + 1) by rw [hT.2.2.1, em]) ?_
    refine a_iconst (v := 1) q146_574 (by decide) ?_
    refine a_isub q146_575 ?_
    refine AW.ti (nI_pred m) ?_
    refine a_iast' q146_576 rfl (j := 0) rfl (by omega) (by decide) (h' := hp I (va_up A 30 (upd (A 30) (0) (nI m))) L []) rfl ?_
    refine a_bipush (v := 100) q146_577 (by decide) ?_
    refine a_bipush (v := 6) q146_579 (by decide) ?_
    refine a_iload q146_581 rfl ?_
    refine a_imul q146_583 ?_
    refine a_iadd q146_584 ?_
    refine AW.ti (nI_v0 r) ?_
    refine a_istore (i := 6) (lv' := [(0, _), (1, _), (2, _), (3, _), (4, _), (5, _), (6, _)]) q146_585 rfl rfl ?_
    refine l_shift (6 * m - 6 * r) (f := upd (A 30) 0 (nI m)) (k := 100 + 6 * r) (upd_s _ _ _) (by have := hT.1; omega) (by omega) (by omega) ?_
    refine a_aload_n (i := 0) q146_618 rfl rfl ?_
    refine a_iload q146_619 rfl ?_
    refine a_callSW (as := [_, _]) q146_621 rfl rfl ⟨rfl, rfl⟩ rfl ?_
    refine q_dropRow (m := m) (j := r) (N := (mDrp (upd (A 30) 0 (nI m)) (100 + 6 * r) (6 * m - 6 * r))) hT hW h18 hC (by omega) em rfl (by rw [mDrp_at, if_neg (by omega)]; exact upd_s _ _ _) (fun x h0 h1 => by rw [mDrp_at, if_neg (by omega)]; exact upd_n (by omega)) (fun k r' hk hr8 => by
                              rw [mDrp_at]
                              by_cases q : r ≤ r'
                              · rw [if_pos (by omega), if_pos q, upd_n (by omega)]; unfold nv; congr 1; omega
                              · rw [if_neg (by omega), if_neg q, upd_n (by omega)]; rfl) (fun I2 A2 L2 hr' e0 e2 => ?_)
    refine ck_r ?_
    refine a_aload_n (i := 1) q146_624 rfl rfl ?_
    refine a_iconst (v := 0) q146_625 (by decide) ?_
    refine a_iald' q146_626 rfl (j := 0) rfl (by omega) (by decide) ?_
    refine AW.ti (e0) ?_
    refine a_icmp_ne (tgt := 644) q146_627 (by decide) (fun zc627 => absurd zc627 (neN rfl)) (fun zc627 => ?_)
    refine a_aload_n (i := 0) q146_630 rfl rfl ?_
    refine a_cv0 q146_631 rfl rfl ⟨rfl, rfl⟩ rfl ?_
    refine c_X9_rows ?_
    refine ck_r ?_
    refine a_aload_n (i := 1) q146_634 rfl rfl ?_
    refine a_iconst (v := 0) q146_635 (by decide) ?_
    refine a_iald' q146_636 rfl (j := 0) rfl (by omega) (by decide) ?_
    refine AW.ti (e0) ?_
    refine a_icmp_ne (tgt := 644) q146_637 (by decide) (fun zc637 => absurd zc637 (neN e2)) (fun zc637 => ?_)
    refine a_iconst (v := 1) q146_640 (by decide) ?_
    refine a_goto (tgt := 645) q146_641 (by decide) ?_
    refine a_ireturn q146_645 (nr_bool rfl (by decide)) ?_
    exact hq _ _ _ hr'
  · skip
    refine a_aload_n (i := 0) q146_540 rfl rfl ?_
    refine a_iconst (v := 0) q146_541 (by decide) ?_
    refine a_iconst (v := 0) q146_542 (by decide) ?_
    refine a_iconst (v := 0) q146_543 (by decide) ?_
    refine a_callSW (as := [_, _, _, _]) q146_544 rfl rfl ⟨rfl, rfl⟩ rfl ?_
    refine c_L_put (hn := hT.2.1) (hn40 := hT.1) (h1 := fun _ => ?_) (h2 := fun y _ => absurd y.1 (no_row hT ((nI_eq (a := n) (b := 0) (by have := hT.1; omega) (by decide)).mp zc537) _)) (h3 := fun j _ hj _ _ _ _ => absurd hj (by have := (nI_eq (a := n) (b := 0) (by have := hT.1; omega) (by decide)).mp zc537; omega))
    refine ck_r ?_
    refine a_ldc1 (v := (-900001)) q146_547 (by decide) ?_
    refine a_icmp_ne (tgt := 556) q146_549 (by decide) (fun zc549 => absurd zc549 (neN rfl)) (fun zc549 => ?_)
    refine a_iconst (v := 1) q146_552 (by decide) ?_
    refine a_goto (tgt := 557) q146_553 (by decide) ?_
    refine a_ireturn q146_557 (nr_bool rfl (by decide)) ?_
    exact hq _ _ _ hr

theorem set_9 {X : XS} {I : Nat → Int32} {A : Nat → Nat → Int32} {L : Nat → Nat → Int64} {Q : AO → AH → Prop} {i c : Nat} (hX : X.1.1 ≤ 260) (hi : i < 800000) (hc : c < 6) (hr : RelL I A L) (hq : ∀ I' A' L', RelL I' A' L' → Q (.inl (some (.int 1))) (hp I' A' L' [])) : AW X 146 646 [(0, .ref 1), (1, .ref 0), (2, .ref 1003), (3, .int (nI i)), (4, .int (nI c))] [] (hp I A L []) 25 150 Q := by
  obtain ⟨n, hT, hW, h18, hC⟩ := id hr
  have h40 := hT.1
  refine a_aload_n (i := 0) q146_646 rfl rfl ?_
  refine a_aload_n (i := 1) q146_647 rfl rfl ?_
  refine a_aload_n (i := 2) q146_648 rfl rfl ?_
  refine a_iload_n (i := 3) q146_649 rfl rfl ?_
  refine a_callS (as := [_, _, _, _]) q146_650 rfl rfl ⟨rfl, rfl⟩ (Or.inr ⟨rfl, rfl, rfl⟩) (c_L_isRow hX hi hr (fun I2 A2 L2 hr' => ck_r ?_))
  refine a_ireturn q146_653 (nr_bool rfl (by decide)) ?_
  exact hq _ _ _ hr'

theorem c_L_isSet {X : XS} {I : Nat → Int32} {A : Nat → Nat → Int32} {L : Nat → Nat → Int64} {Q : AO → AH → Prop} (hX : X.1.1 ≤ 260) {i : Nat} (hi : i < 800000) (hr : RelL I A L) (hq : ∀ I' A' L', RelL I' A' L' → Q (.inl (some (.int 1))) (hp I' A' L' [])) : Call X 146 [.ref 1, .ref 0, .ref 1003, .int (nI i)] (hp I A L []) Q := by
  refine call_of (by decide) rfl rfl ?_
  refine a_aload_n (i := 2) q146_0 rfl rfl ?_
  refine a_iload_n (i := 3) q146_1 rfl rfl ?_
  refine a_iconst (v := 1) q146_2 (by decide) ?_
  refine a_iadd q146_3 ?_
  refine AW.ti (nI_add i 1) ?_
  refine a_bipush (v := 6) q146_4 (by decide) ?_
  refine a_cs3 q146_6 rfl ⟨rfl, rfl⟩ rfl ?_
  refine c_L_in hX (i := i + 1) (m := 6) (by omega) (by omega) (by omega) (fun c hcc => ?_)
  refine ck_r ?_
  refine a_istore (i := 4) (lv' := [(0, _), (1, _), (2, _), (3, _), (4, _)]) q146_9 rfl rfl ?_
  refine a_aload_n (i := 2) q146_11 rfl rfl ?_
  refine a_iload_n (i := 3) q146_12 rfl rfl ?_
  refine a_bipush (v := 10) q146_13 (by decide) ?_
  refine a_cs3 q146_15 rfl ⟨rfl, rfl⟩ rfl ?_
  refine c_L_in hX (i := i) (m := 10) (by omega) (by omega) (by omega) (fun u hu => ?_)
  refine ck_r ?_
  rcases (show u = 0 ∨ u = 1 ∨ u = 2 ∨ u = 3 ∨ u = 4 ∨ u = 5 ∨ u = 6 ∨ u = 7 ∨ u = 8 ∨ u = 9 by omega) with rfl | rfl | rfl | rfl | rfl | rfl | rfl | rfl | rfl | rfl
  · exact a_tableIn (off := 50) (tgt := 68) q146_18 (by decide) (by decide) (by decide) (by decide) (set_0 hX hi hcc hr hq)
  · exact a_tableIn (off := 95) (tgt := 113) q146_18 (by decide) (by decide) (by decide) (by decide) (set_1 hX hi hcc hr hq)
  · exact a_tableIn (off := 151) (tgt := 169) q146_18 (by decide) (by decide) (by decide) (by decide) (set_2 hX hi hcc hr hq)
  · exact a_tableIn (off := 238) (tgt := 256) q146_18 (by decide) (by decide) (by decide) (by decide) (set_3 hX hi hcc hr hq)
  · exact a_tableIn (off := 309) (tgt := 327) q146_18 (by decide) (by decide) (by decide) (by decide) (set_4 hX hi hcc hr hq)
  · exact a_tableIn (off := 309) (tgt := 327) q146_18 (by decide) (by decide) (by decide) (by decide) (set_4 hX hi hcc hr hq)
  · exact a_tableIn (off := 341) (tgt := 359) q146_18 (by decide) (by decide) (by decide) (by decide) (set_6 hX hi hcc hr hq)
  · exact a_tableIn (off := 401) (tgt := 419) q146_18 (by decide) (by decide) (by decide) (by decide) (set_7 hX hi hcc hr hq)
  · exact a_tableIn (off := 516) (tgt := 534) q146_18 (by decide) (by decide) (by decide) (by decide) (set_8 hX hi hcc hr hq)
  · exact a_tableOut (tgt := 646) q146_18 (Or.inr (by decide)) (by decide) (set_9 hX hi hcc hr hq)
