/-! the law's ranking -/
abbrev RBk (I : Nat → Int32) (A : Nat → Nat → Int32) (L : Nat → Nat → Int64) (u : Nat) (B : Nat → Int64) : Prop := RB (f_fb I A) (f_cost I A L) u B
theorem xI_up (s : Nat) : xI s + 1 = xI (s + 1) := (xI_p1 s).trans (xI_s s).symm
theorem xI_iff {a b : Nat} (ha : a < 7) (hb : b < 7) : xI a = xI b ↔ a = b := ⟨xI_inj ha hb, fun z => by rw [z]⟩
theorem xI_lt6 {s : Nat} (h : s < 8) : 6 ≤ xI s ↔ s = 7 := by
  have : ∀ s, s < 8 → (6 ≤ xI s ↔ s = 7) := by decide +kernel
  exact this s h
theorem l_ins (m9 : Nat) : ∀ {X : XS} {I : Nat → Int32} {A : Nat → Nat → Int32} {L : Nat → Nat → Int64} {Q : AO → AH → Prop} {K : Nat → Int32} {B : Nat → Int64} {bc bs : Nat} {p : Int64} {k : Nat} {vx vy vc vs vt vw : Int32} (hm : k + m9 = 5) (kk : AW X 145 328 [(0, .ref 0), (1, .ref 22), (2, .ref 23), (3, .int vx), (4, .int vy), (5, .int vc), (6, .int vs), (7, .int vt), (8, .int vw)] [] (hp I A L [kc K, lc (insB m9 k p B)]) bc bs Q), AW X 145 288 [(0, .ref 0), (1, .ref 22), (2, .ref 23), (3, .int vx), (4, .int vy), (5, .int vc), (6, .int vs), (7, .int vt), (8, .int vw), (9, .long p), (11, .int (nI k))] [] (hp I A L [kc K, lc B]) (bc) (bs) Q := by
  induction m9 with
  | zero =>
    intro X I A L Q K B bc bs p k vx vy vc vs vt vw hm kk
    refine a_iload q145_288 rfl ?_
    refine a_iconst (v := 5) q145_290 (by decide) ?_
    refine a_icmp_ge (tgt := 328) q145_291 (by decide) (fun zc291 => ?_) (fun zc291 => absurd (nI_le (show 5 ≤ k by omega) (by omega)) zc291)
    refine AW.pop_less (x := (11, _)) (lv' := [(0, _), (1, _), (2, _), (3, _), (4, _), (5, _), (6, _), (7, _), (8, _), (9, _)]) ?_
    refine AW.pop_less (x := (9, _)) (lv' := [(0, _), (1, _), (2, _), (3, _), (4, _), (5, _), (6, _), (7, _), (8, _)]) ?_
    exact kk
  | succ m9 ih =>
    intro X I A L Q K B bc bs p k vx vy vc vs vt vw hm kk
    refine a_iload q145_288 rfl ?_
    refine a_iconst (v := 5) q145_290 (by decide) ?_
    refine a_icmp_ge (tgt := 328) q145_291 (by decide) (fun zc291 => absurd zc291 (nI_ge (show k < 5 by omega) (by decide))) (fun zc291 => ?_)
    refine a_lload q145_294 rfl ?_
    refine a_aload_n (i := 2) q145_296 rfl rfl ?_
    refine a_iload q145_297 rfl ?_
    refine a_lald' q145_299 rfl (j := k) rfl (by omega) (by decide) ?_
    refine a_lmin q145_300 rfl ?_
    refine a_lstore (i := 12) (lv' := [(0, _), (1, _), (2, _), (3, _), (4, _), (5, _), (6, _), (7, _), (8, _), (9, _), (11, _), (12, _)]) q145_303 rfl rfl ?_
    refine a_lload q145_305 rfl ?_
    refine a_aload_n (i := 2) q145_307 rfl rfl ?_
    refine a_iload q145_308 rfl ?_
    refine a_lald' q145_310 rfl (j := k) rfl (by omega) (by decide) ?_
    refine a_lmax q145_311 rfl ?_
    refine a_lstore (i := 9) (lv' := [(0, _), (1, _), (2, _), (3, _), (4, _), (5, _), (6, _), (7, _), (8, _), (9, _), (11, _), (12, _)]) q145_314 rfl rfl ?_
    refine a_aload_n (i := 2) q145_316 rfl rfl ?_
    refine a_iload q145_317 rfl ?_
    refine a_lload q145_319 rfl ?_
    refine a_last' q145_321 rfl (j := k) rfl (by omega) (by decide) (h' := (hp I A L [kc K, lc (vp_updL B k (if B k < p then B k else p))])) rfl ?_
    refine a_iinc (v := nI (k + 1)) (lv' := [(0, _), (1, _), (2, _), (3, _), (4, _), (5, _), (6, _), (7, _), (8, _), (9, _), (11, _), (12, _)]) q145_322 rfl rfl (nI_1 (k)) rfl ?_
    refine a_goto (tgt := 288) q145_325 (by decide) ?_
    refine AW.pop_less (x := (12, _)) (lv' := [(0, _), (1, _), (2, _), (3, _), (4, _), (5, _), (6, _), (7, _), (8, _), (9, _), (11, _)]) ?_
    exact ih (show k + 1 + m9 = 5 by omega) kk

theorem l_way (m9 : Nat) : ∀ {X : XS} {I : Nat → Int32} {A : Nat → Nat → Int32} {L : Nat → Nat → Int64} {Q : AO → AH → Prop} {K : Nat → Int32} {B : Nat → Int64} {n bc bs : Nat} {x y c s w : Nat} (hX2 : X.2 = 22) (hT : Tbl n I A L) (hW : Wsh I A) (hK : KO A K) (hx : x < 7) (hy : y < 7) (hcc : c < 7) (hs : s < 7) (hdi : dist x y c s) (hm : w + m9 = 9) (hB : RBk I A L (uix x y c s w) B) (kk : ∀ B, RBk I A L (uix x y c s 9) B → AW X 145 334 [(0, .ref 0), (1, .ref 22), (2, .ref 23), (3, .int (xI x)), (4, .int (xI y)), (5, .int (xI c)), (6, .int (xI s))] [] (hp I A L [kc K, lc B]) bc bs Q), AW X 145 130 [(0, .ref 0), (1, .ref 22), (2, .ref 23), (3, .int (xI x)), (4, .int (xI y)), (5, .int (xI c)), (6, .int (xI s)), (7, .int 0), (8, .int (nI w))] [] (hp I A L [kc K, lc B]) (4 * m9 + bc) (30 * m9 + bs) Q := by
  induction m9 with
  | zero =>
    intro X I A L Q K B n bc bs x y c s w hX2 hT hW hK hx hy hcc hs hdi hm hB kk
    refine a_iload q145_130 rfl ?_
    refine a_bipush (v := 9) q145_132 (by decide) ?_
    refine a_icmp_ge (tgt := 334) q145_134 (by decide) (fun zc134 => ?_) (fun zc134 => absurd (nI_le (show 9 ≤ w by omega) (by omega)) zc134)
    refine AW.pop_less (x := (8, _)) (lv' := [(0, _), (1, _), (2, _), (3, _), (4, _), (5, _), (6, _), (7, _)]) ?_
    refine AW.pop_less (x := (7, _)) (lv' := [(0, _), (1, _), (2, _), (3, _), (4, _), (5, _), (6, _)]) ?_
    refine AW.wide (bc' := bc) (bs' := bs) (by omega) (by omega) ?_
    exact kk B (by rw [show w = 9 by omega] at hB; exact hB)
  | succ m9 ih =>
    intro X I A L Q K B n bc bs x y c s w hX2 hT hW hK hx hy hcc hs hdi hm hB kk
    have htau : tauL (uix x y c s w) = idx (w / 3) (w % 3) x y c s := tauL_uix hy hcc hs (by omega)
    have hd6 : dgt (w / 3) (w % 3) x y c s := ⟨by omega, by omega, hx, hy, hcc, hs⟩
    refine AW.wide (bc' := 4 * m9 + bc + 4) (bs' := 30 * m9 + bs + 30) (by omega) (by omega) ?_
    refine a_iload q145_130 rfl ?_
    refine a_bipush (v := 9) q145_132 (by decide) ?_
    refine a_icmp_ge (tgt := 334) q145_134 (by decide) (fun zc134 => absurd zc134 (nI_ge (show w < 9 by omega) (by decide))) (fun zc134 => ?_)
    refine a_iload q145_137 rfl ?_
    refine a_if_ne (tgt := 334) q145_139 (by decide) (fun zc139 => absurd zc139 (by decide)) (fun zc139 => ?_)
    refine a_aload_n (i := 0) q145_142 rfl rfl ?_
    refine a_aload_n (i := 1) q145_143 rfl rfl ?_
    refine a_bipush (v := 6) q145_144 (by decide) ?_
    refine a_newarray (a := 0) (kn := 24) (N := 6) q145_146 (by decide) rfl (by decide) rfl (by decide) rfl ⟨rfl, rfl⟩ ?_
    refine AW.hp (h' := (hp I A L [kc K, lc B, cc (fun _ => 0)])) rfl ?_
    refine a_dup q145_148 rfl ?_
    refine a_iconst (v := 0) q145_149 (by decide) ?_
    refine a_iload q145_150 rfl ?_
    refine a_iconst (v := 3) q145_152 (by decide) ?_
    refine a_idiv q145_153 (by decide) ?_
    refine AW.ti (pk_div (a := w) (d := 3) (by omega) (by decide) (by decide)) ?_
    refine a_iast' q145_154 rfl (j := 0) rfl (by decide) (by decide) (h' := (hp I A L [kc K, lc B, cc (upd (fun _ => 0) 0 (nI (w / 3)))])) rfl ?_
    refine a_dup q145_155 rfl ?_
    refine a_iconst (v := 1) q145_156 (by decide) ?_
    refine a_iload q145_157 rfl ?_
    refine a_iconst (v := 3) q145_159 (by decide) ?_
    refine a_irem q145_160 (by decide) ?_
    refine AW.ti (pk_rem (a := w) (d := 3) (by omega) (by decide) (by decide)) ?_
    refine a_iast' q145_161 rfl (j := 1) rfl (by decide) (by decide) (h' := (hp I A L [kc K, lc B, cc (upd (upd (fun _ => 0) 0 (nI (w / 3))) 1 (nI (w % 3)))])) rfl ?_
    refine a_dup q145_162 rfl ?_
    refine a_iconst (v := 2) q145_163 (by decide) ?_
    refine a_iload_n (i := 3) q145_164 rfl rfl ?_
    refine a_iast' q145_165 rfl (j := 2) rfl (by decide) (by decide) (h' := (hp I A L [kc K, lc B, cc (upd (upd (upd (fun _ => 0) 0 (nI (w / 3))) 1 (nI (w % 3))) 2 (xI x))])) rfl ?_
    refine a_dup q145_166 rfl ?_
    refine a_iconst (v := 3) q145_167 (by decide) ?_
    refine a_iload q145_168 rfl ?_
    refine a_iast' q145_170 rfl (j := 3) rfl (by decide) (by decide) (h' := (hp I A L [kc K, lc B, cc (upd (upd (upd (upd (fun _ => 0) 0 (nI (w / 3))) 1 (nI (w % 3))) 2 (xI x)) 3 (xI y))])) rfl ?_
    refine a_dup q145_171 rfl ?_
    refine a_iconst (v := 4) q145_172 (by decide) ?_
    refine a_iload q145_173 rfl ?_
    refine a_iast' q145_175 rfl (j := 4) rfl (by decide) (by decide) (h' := (hp I A L [kc K, lc B, cc (upd (upd (upd (upd (upd (fun _ => 0) 0 (nI (w / 3))) 1 (nI (w % 3))) 2 (xI x)) 3 (xI y)) 4 (xI c))])) rfl ?_
    refine a_dup q145_176 rfl ?_
    refine a_iconst (v := 5) q145_177 (by decide) ?_
    refine a_iload q145_178 rfl ?_
    refine a_iast' q145_180 rfl (j := 5) rfl (by decide) (by decide) (h' := (hp I A L [kc K, lc B, cc (upd (upd (upd (upd (upd (upd (fun _ => 0) 0 (nI (w / 3))) 1 (nI (w % 3))) 2 (xI x)) 3 (xI y)) 4 (xI c)) 5 (xI s))])) rfl ?_
    have hf6 : digF (upd (upd (upd (upd (upd (upd (fun _ => 0) 0 (nI (w / 3))) 1 (nI (w % 3))) 2 (xI x)) 3 (xI y)) 4 (xI c)) 5 (xI s)) (w / 3) (w % 3) x y c s := ⟨rfl, rfl, rfl, rfl, rfl, rfl⟩
    generalize (upd (upd (upd (upd (upd (upd (fun _ => 0) 0 (nI (w / 3))) 1 (nI (w % 3))) 2 (xI x)) 3 (xI y)) 4 (xI c)) 5 (xI s)) = C at hf6 ⊢
    refine a_cs3 q145_181 rfl ⟨rfl, rfl⟩ rfl ?_
    refine c_L_broken (KO_r hT hW hK) hd6 hf6 (fun v hv => ?_)
    refine ck_r ?_
    refine AW.hp (h' := hp I A L [kc K, lc B] ++ [cc C]) rfl ?_
    refine AW.drop (by rw [hX2]; rfl) ?_
    refine a_if_ne (tgt := 328) q145_184 (by decide) (fun zc184 => ?_) (fun zc184 => ?_)
    · skip
      refine a_iinc (v := nI (w + 1)) (lv' := [(0, _), (1, _), (2, _), (3, _), (4, _), (5, _), (6, _), (7, _), (8, _)]) q145_328 rfl rfl (nI_1 (w)) rfl ?_
      refine a_goto (tgt := 130) q145_331 (by decide) ?_
      
      have hnal : ¬ alI (f_fb I A) (tauL (uix x y c s w)) := by
        rw [htau]; exact fun zz => zc184 (hv.mpr ((law_fb hT hW hK hd6 hf6).mpr ((al_idx hd6).mp zz).2))
      refine AW.wide (bc' := 4 * m9 + bc) (bs' := 30 * m9 + bs) (Nat.le_trans (show 4 * m9 + bc ≤ 4 * m9 + bc + 3 by omega) (Nat.le_of_eq rfl)) (Nat.le_trans (show 30 * m9 + bs ≤ 30 * m9 + bs + 24 by omega) (Nat.le_of_eq rfl)) ?_
      exact ih hX2 hT hW hK hx hy hcc hs hdi (show w + 1 + m9 = 9 by omega) (RB_to (RB_skip hnal hB) (show uix x y c s w + 1 = uix x y c s (w + 1) by unfold uix; omega)) kk
    · skip
      have hv0 : v = 0 := zc184
      have hal : alI (f_fb I A) (tauL (uix x y c s w)) := by
        rw [htau]; exact (al_idx hd6).mpr ⟨hdi, (law_fb hT hW hK hd6 hf6).mp (hv.mp hv0)⟩
      refine a_aload_n (i := 2) q145_187 rfl rfl ?_
      refine a_iconst (v := 5) q145_188 (by decide) ?_
      refine a_dup2 q145_189 rfl rfl ?_
      refine a_lald' q145_190 rfl (j := 5) rfl (by decide) (by decide) ?_
      refine a_lconst (v := 1) q145_191 (by decide) ?_
      refine a_ladd q145_192 ?_
      refine a_last' q145_193 rfl (j := 5) rfl (by decide) (by decide) (h' := (hp I A L [kc K, lc (vp_updL B 5 (B 5 + 1))])) rfl ?_
      refine a_ldc2 (v := 100000) q145_194 (by decide) ?_
      refine a_aload_n (i := 0) q145_197 rfl rfl ?_
      refine a_aload_n (i := 1) q145_198 rfl rfl ?_
      refine a_bipush (v := 6) q145_199 (by decide) ?_
      refine a_newarray (a := 0) (kn := 24) (N := 6) q145_201 (by decide) rfl (by decide) rfl (by decide) rfl ⟨rfl, rfl⟩ ?_
      refine AW.hp (h' := (hp I A L [kc K, lc (vp_updL B 5 (B 5 + 1)), cc (fun _ => 0)])) rfl ?_
      refine a_dup q145_203 rfl ?_
      refine a_iconst (v := 0) q145_204 (by decide) ?_
      refine a_iload q145_205 rfl ?_
      refine a_iconst (v := 3) q145_207 (by decide) ?_
      refine a_idiv q145_208 (by decide) ?_
      refine AW.ti (pk_div (a := w) (d := 3) (by omega) (by decide) (by decide)) ?_
      refine a_iast' q145_209 rfl (j := 0) rfl (by decide) (by decide) (h' := (hp I A L [kc K, lc (vp_updL B 5 (B 5 + 1)), cc (upd (fun _ => 0) 0 (nI (w / 3)))])) rfl ?_
      refine a_dup q145_210 rfl ?_
      refine a_iconst (v := 1) q145_211 (by decide) ?_
      refine a_iload q145_212 rfl ?_
      refine a_iconst (v := 3) q145_214 (by decide) ?_
      refine a_irem q145_215 (by decide) ?_
      refine AW.ti (pk_rem (a := w) (d := 3) (by omega) (by decide) (by decide)) ?_
      refine a_iast' q145_216 rfl (j := 1) rfl (by decide) (by decide) (h' := (hp I A L [kc K, lc (vp_updL B 5 (B 5 + 1)), cc (upd (upd (fun _ => 0) 0 (nI (w / 3))) 1 (nI (w % 3)))])) rfl ?_
      refine a_dup q145_217 rfl ?_
      refine a_iconst (v := 2) q145_218 (by decide) ?_
      refine a_iload_n (i := 3) q145_219 rfl rfl ?_
      refine a_iast' q145_220 rfl (j := 2) rfl (by decide) (by decide) (h' := (hp I A L [kc K, lc (vp_updL B 5 (B 5 + 1)), cc (upd (upd (upd (fun _ => 0) 0 (nI (w / 3))) 1 (nI (w % 3))) 2 (xI x))])) rfl ?_
      refine a_dup q145_221 rfl ?_
      refine a_iconst (v := 3) q145_222 (by decide) ?_
      refine a_iload q145_223 rfl ?_
      refine a_iast' q145_225 rfl (j := 3) rfl (by decide) (by decide) (h' := (hp I A L [kc K, lc (vp_updL B 5 (B 5 + 1)), cc (upd (upd (upd (upd (fun _ => 0) 0 (nI (w / 3))) 1 (nI (w % 3))) 2 (xI x)) 3 (xI y))])) rfl ?_
      refine a_dup q145_226 rfl ?_
      refine a_iconst (v := 4) q145_227 (by decide) ?_
      refine a_iload q145_228 rfl ?_
      refine a_iast' q145_230 rfl (j := 4) rfl (by decide) (by decide) (h' := (hp I A L [kc K, lc (vp_updL B 5 (B 5 + 1)), cc (upd (upd (upd (upd (upd (fun _ => 0) 0 (nI (w / 3))) 1 (nI (w % 3))) 2 (xI x)) 3 (xI y)) 4 (xI c))])) rfl ?_
      refine a_dup q145_231 rfl ?_
      refine a_iconst (v := 5) q145_232 (by decide) ?_
      refine a_iload q145_233 rfl ?_
      refine a_iast' q145_235 rfl (j := 5) rfl (by decide) (by decide) (h' := (hp I A L [kc K, lc (vp_updL B 5 (B 5 + 1)), cc (upd (upd (upd (upd (upd (upd (fun _ => 0) 0 (nI (w / 3))) 1 (nI (w % 3))) 2 (xI x)) 3 (xI y)) 4 (xI c)) 5 (xI s))])) rfl ?_
      have hf6 : digF (upd (upd (upd (upd (upd (upd (fun _ => 0) 0 (nI (w / 3))) 1 (nI (w % 3))) 2 (xI x)) 3 (xI y)) 4 (xI c)) 5 (xI s)) (w / 3) (w % 3) x y c s := ⟨rfl, rfl, rfl, rfl, rfl, rfl⟩
      generalize (upd (upd (upd (upd (upd (upd (fun _ => 0) 0 (nI (w / 3))) 1 (nI (w % 3))) 2 (xI x)) 3 (xI y)) 4 (xI c)) 5 (xI s)) = C at hf6 ⊢
      refine a_callS (as := [_, _, _]) q145_236 rfl rfl ⟨rfl, rfl⟩ (Or.inr ⟨rfl, rfl, rfl⟩) (c_L_cost_ hT.2.2.1 hT.1 (KO_r hT hW hK) hd6 hf6 (ck_r ?_))
      refine AW.ti (law_cost hT hW hK hd6 hdi hf6) ?_
      refine AW.hp (h' := hp I A L [kc K, lc (vp_updL B 5 (B 5 + 1))] ++ [cc C]) rfl ?_
      refine AW.drop (by rw [hX2]; rfl) ?_
      refine a_i2l q145_239 ?_
      refine a_lmul q145_240 ?_
      refine a_bipush (v := 6) q145_241 (by decide) ?_
      refine a_newarray (a := 0) (kn := 24) (N := 6) q145_243 (by decide) rfl (by decide) rfl (by decide) rfl ⟨rfl, rfl⟩ ?_
      refine AW.hp (h' := (hp I A L [kc K, lc (vp_updL B 5 (B 5 + 1)), cc (fun _ => 0)])) rfl ?_
      refine a_dup q145_245 rfl ?_
      refine a_iconst (v := 0) q145_246 (by decide) ?_
      refine a_iload q145_247 rfl ?_
      refine a_iconst (v := 3) q145_249 (by decide) ?_
      refine a_idiv q145_250 (by decide) ?_
      refine AW.ti (pk_div (a := w) (d := 3) (by omega) (by decide) (by decide)) ?_
      refine a_iast' q145_251 rfl (j := 0) rfl (by decide) (by decide) (h' := (hp I A L [kc K, lc (vp_updL B 5 (B 5 + 1)), cc (upd (fun _ => 0) 0 (nI (w / 3)))])) rfl ?_
      refine a_dup q145_252 rfl ?_
      refine a_iconst (v := 1) q145_253 (by decide) ?_
      refine a_iload q145_254 rfl ?_
      refine a_iconst (v := 3) q145_256 (by decide) ?_
      refine a_irem q145_257 (by decide) ?_
      refine AW.ti (pk_rem (a := w) (d := 3) (by omega) (by decide) (by decide)) ?_
      refine a_iast' q145_258 rfl (j := 1) rfl (by decide) (by decide) (h' := (hp I A L [kc K, lc (vp_updL B 5 (B 5 + 1)), cc (upd (upd (fun _ => 0) 0 (nI (w / 3))) 1 (nI (w % 3)))])) rfl ?_
      refine a_dup q145_259 rfl ?_
      refine a_iconst (v := 2) q145_260 (by decide) ?_
      refine a_iload_n (i := 3) q145_261 rfl rfl ?_
      refine a_iast' q145_262 rfl (j := 2) rfl (by decide) (by decide) (h' := (hp I A L [kc K, lc (vp_updL B 5 (B 5 + 1)), cc (upd (upd (upd (fun _ => 0) 0 (nI (w / 3))) 1 (nI (w % 3))) 2 (xI x))])) rfl ?_
      refine a_dup q145_263 rfl ?_
      refine a_iconst (v := 3) q145_264 (by decide) ?_
      refine a_iload q145_265 rfl ?_
      refine a_iast' q145_267 rfl (j := 3) rfl (by decide) (by decide) (h' := (hp I A L [kc K, lc (vp_updL B 5 (B 5 + 1)), cc (upd (upd (upd (upd (fun _ => 0) 0 (nI (w / 3))) 1 (nI (w % 3))) 2 (xI x)) 3 (xI y))])) rfl ?_
      refine a_dup q145_268 rfl ?_
      refine a_iconst (v := 4) q145_269 (by decide) ?_
      refine a_iload q145_270 rfl ?_
      refine a_iast' q145_272 rfl (j := 4) rfl (by decide) (by decide) (h' := (hp I A L [kc K, lc (vp_updL B 5 (B 5 + 1)), cc (upd (upd (upd (upd (upd (fun _ => 0) 0 (nI (w / 3))) 1 (nI (w % 3))) 2 (xI x)) 3 (xI y)) 4 (xI c))])) rfl ?_
      refine a_dup q145_273 rfl ?_
      refine a_iconst (v := 5) q145_274 (by decide) ?_
      refine a_iload q145_275 rfl ?_
      refine a_iast' q145_277 rfl (j := 5) rfl (by decide) (by decide) (h' := (hp I A L [kc K, lc (vp_updL B 5 (B 5 + 1)), cc (upd (upd (upd (upd (upd (upd (fun _ => 0) 0 (nI (w / 3))) 1 (nI (w % 3))) 2 (xI x)) 3 (xI y)) 4 (xI c)) 5 (xI s))])) rfl ?_
      have hf6 : digF (upd (upd (upd (upd (upd (upd (fun _ => 0) 0 (nI (w / 3))) 1 (nI (w % 3))) 2 (xI x)) 3 (xI y)) 4 (xI c)) 5 (xI s)) (w / 3) (w % 3) x y c s := ⟨rfl, rfl, rfl, rfl, rfl, rfl⟩
      generalize (upd (upd (upd (upd (upd (upd (fun _ => 0) 0 (nI (w / 3))) 1 (nI (w % 3))) 2 (xI x)) 3 (xI y)) 4 (xI c)) 5 (xI s)) = C at hf6 ⊢
      refine a_cs1 q145_278 rfl ⟨rfl, rfl⟩ rfl ?_
      refine c_L_place hd6 hf6 ?_
      refine ck_r ?_
      refine AW.hp (h' := hp I A L [kc K, lc (vp_updL B 5 (B 5 + 1))] ++ [cc C]) rfl ?_
      refine AW.drop (by rw [hX2]; rfl) ?_
      refine a_i2l q145_281 ?_
      refine a_ladd q145_282 ?_
      refine AW.tl (show _ = lkey (f_cost I A L) (tauL (uix x y c s w)) by rw [htau]; unfold lkey; rw [codI_idx hd6]) ?_
      refine a_lstore (i := 9) (lv' := [(0, _), (1, _), (2, _), (3, _), (4, _), (5, _), (6, _), (7, _), (8, _), (9, _)]) q145_283 rfl rfl ?_
      refine a_iconst (v := 0) q145_285 (by decide) ?_
      refine a_istore (i := 11) (lv' := [(0, _), (1, _), (2, _), (3, _), (4, _), (5, _), (6, _), (7, _), (8, _), (9, _), (11, _)]) q145_286 rfl rfl ?_
      refine l_ins 5 (k := 0) rfl ?_
      refine a_iinc (v := nI (w + 1)) (lv' := [(0, _), (1, _), (2, _), (3, _), (4, _), (5, _), (6, _), (7, _), (8, _)]) q145_328 rfl rfl (nI_1 (w)) rfl ?_
      refine a_goto (tgt := 130) q145_331 (by decide) ?_
      
      refine AW.wide (bc' := 4 * m9 + bc) (bs' := 30 * m9 + bs) (Nat.le_of_eq rfl) (Nat.le_of_eq rfl) ?_
      exact ih hX2 hT hW hK hx hy hcc hs hdi (show w + 1 + m9 = 9 by omega) (RB_to (RB_step (coOK_L (vb_link hT hW hK)) (show (uix x y c s w) < 21609 by unfold uix; omega) hal hB) (show uix x y c s w + 1 = uix x y c s (w + 1) by unfold uix; omega)) kk

theorem l_siz (m9 : Nat) : ∀ {X : XS} {I : Nat → Int32} {A : Nat → Nat → Int32} {L : Nat → Nat → Int64} {Q : AO → AH → Prop} {K : Nat → Int32} {B : Nat → Int64} {n bc bs : Nat} {x y c s : Nat} (hX2 : X.2 = 22) (hT : Tbl n I A L) (hW : Wsh I A) (hK : KO A K) (hx : x < 7) (hy : y < 7) (hcc : c < 7) (hm : s + m9 = 7) (hB : RBk I A L (uix x y c s 0) B) (kk : ∀ B, RBk I A L (uix x y c 7 0) B → AW X 145 340 [(0, .ref 0), (1, .ref 22), (2, .ref 23), (3, .int (xI x)), (4, .int (xI y)), (5, .int (xI c))] [] (hp I A L [kc K, lc B]) bc bs Q), AW X 145 60 [(0, .ref 0), (1, .ref 22), (2, .ref 23), (3, .int (xI x)), (4, .int (xI y)), (5, .int (xI c)), (6, .int (xI s))] [] (hp I A L [kc K, lc B]) (36 * m9 + bc) (270 * m9 + bs) Q := by
  induction m9 with
  | zero =>
    intro X I A L Q K B n bc bs x y c s hX2 hT hW hK hx hy hcc hm hB kk
    refine a_iload q145_60 rfl ?_
    refine a_bipush (v := 6) q145_62 (by decide) ?_
    refine a_icmp_ge (tgt := 340) q145_64 (by decide) (fun zc64 => ?_) (fun zc64 => absurd ((xI_lt6 (by omega)).mpr (by omega)) zc64)
    refine AW.pop_less (x := (6, _)) (lv' := [(0, _), (1, _), (2, _), (3, _), (4, _), (5, _)]) ?_
    refine AW.wide (bc' := bc) (bs' := bs) (by omega) (by omega) ?_
    exact kk B (by rw [show s = 7 by omega] at hB; exact hB)
  | succ m9 ih =>
    intro X I A L Q K B n bc bs x y c s hX2 hT hW hK hx hy hcc hm hB kk
    have hs7 : s < 7 := by omega
    refine a_iload q145_60 rfl ?_
    refine a_bipush (v := 6) q145_62 (by decide) ?_
    refine a_icmp_ge (tgt := 340) q145_64 (by decide) (fun zc64 => absurd zc64 (fun zz => by have := (xI_lt6 (show s < 8 by omega)).mp zz; omega)) (fun zc64 => ?_)
    have hs : s < 7 := hs7
    refine AW.wide (bc' := 4 * 9 + (36 * m9 + bc)) (bs' := 30 * 9 + (270 * m9 + bs)) (by omega) (by omega) ?_
    have kk9 : ∀ B, RBk I A L (uix x y c s 9) B → AW X 145 334 [(0, .ref 0), (1, .ref 22), (2, .ref 23), (3, .int (xI x)), (4, .int (xI y)), (5, .int (xI c)), (6, .int (xI s))] [] (hp I A L [kc K, lc B]) (36 * m9 + bc) (270 * m9 + bs) Q := by
      intro B hB2
      refine a_iinc (v := xI (s + 1)) (lv' := [(0, _), (1, _), (2, _), (3, _), (4, _), (5, _), (6, _)]) q145_334 rfl rfl (xI_up s) rfl ?_
      refine a_goto (tgt := 60) q145_337 (by decide) ?_
      exact ih hX2 hT hW hK hx hy hcc (show s + 1 + m9 = 7 by omega) (RB_to hB2 (show uix x y c s 9 = uix x y c (s + 1) 0 by unfold uix; omega)) kk
    refine AW.cut 125 (@b2i (¬ dist x y c s) (Classical.propDecidable _)) (fun zk125 => ?_) ?_
    · skip
      refine a_iload_n (i := 3) q145_67 rfl rfl ?_
      refine a_if_lt (tgt := 89) q145_68 (by decide) (fun zc68 => ?_) (fun zc68 => ?_)
      · skip
        refine a_iload q145_89 rfl ?_
        refine a_if_lt (tgt := 108) q145_91 (by decide) (fun zc91 => ?_) (fun zc91 => ?_)
        · skip
          refine a_iload q145_108 rfl ?_
          refine a_if_lt (tgt := 124) q145_110 (by decide) (fun zc110 => ?_) (fun zc110 => ?_)
          · skip
            refine a_iconst (v := 0) q145_124 (by decide) ?_
            exact cutv zk125 (by have y1 := xI_neg hx; have y2 := xI_neg hy; have y3 := xI_neg hcc; have i1 := xI_iff hx hy; have i2 := xI_iff hx hcc; have i3 := xI_iff hx hs; have i4 := xI_iff hy hcc; have i5 := xI_iff hy hs; have i6 := xI_iff hcc hs; unfold b2i; split <;> first | rfl | (exfalso; simp only [y1, y2, y3, i1, i2, i3, i4, i5, i6, dist] at *; omega))
          · skip
            refine a_iload q145_113 rfl ?_
            refine a_iload q145_115 rfl ?_
            refine a_icmp_ne (tgt := 124) q145_117 (by decide) (fun zc117 => ?_) (fun zc117 => ?_)
            · skip
              refine a_iconst (v := 0) q145_124 (by decide) ?_
              exact cutv zk125 (by have y1 := xI_neg hx; have y2 := xI_neg hy; have y3 := xI_neg hcc; have i1 := xI_iff hx hy; have i2 := xI_iff hx hcc; have i3 := xI_iff hx hs; have i4 := xI_iff hy hcc; have i5 := xI_iff hy hs; have i6 := xI_iff hcc hs; unfold b2i; split <;> first | rfl | (exfalso; simp only [y1, y2, y3, i1, i2, i3, i4, i5, i6, dist] at *; omega))
            · skip
              refine a_iconst (v := 1) q145_120 (by decide) ?_
              refine a_goto (tgt := 125) q145_121 (by decide) ?_
              exact cutv zk125 (by have y1 := xI_neg hx; have y2 := xI_neg hy; have y3 := xI_neg hcc; have i1 := xI_iff hx hy; have i2 := xI_iff hx hcc; have i3 := xI_iff hx hs; have i4 := xI_iff hy hcc; have i5 := xI_iff hy hs; have i6 := xI_iff hcc hs; unfold b2i; split <;> first | rfl | (exfalso; simp only [y1, y2, y3, i1, i2, i3, i4, i5, i6, dist] at *; omega))
        · skip
          refine a_iload q145_94 rfl ?_
          refine a_iload q145_96 rfl ?_
          refine a_icmp_eq (tgt := 120) q145_98 (by decide) (fun zc98 => ?_) (fun zc98 => ?_)
          · skip
            refine a_iconst (v := 1) q145_120 (by decide) ?_
            refine a_goto (tgt := 125) q145_121 (by decide) ?_
            exact cutv zk125 (by have y1 := xI_neg hx; have y2 := xI_neg hy; have y3 := xI_neg hcc; have i1 := xI_iff hx hy; have i2 := xI_iff hx hcc; have i3 := xI_iff hx hs; have i4 := xI_iff hy hcc; have i5 := xI_iff hy hs; have i6 := xI_iff hcc hs; unfold b2i; split <;> first | rfl | (exfalso; simp only [y1, y2, y3, i1, i2, i3, i4, i5, i6, dist] at *; omega))
          · skip
            refine a_iload q145_101 rfl ?_
            refine a_iload q145_103 rfl ?_
            refine a_icmp_eq (tgt := 120) q145_105 (by decide) (fun zc105 => ?_) (fun zc105 => ?_)
            · skip
              refine a_iconst (v := 1) q145_120 (by decide) ?_
              refine a_goto (tgt := 125) q145_121 (by decide) ?_
              exact cutv zk125 (by have y1 := xI_neg hx; have y2 := xI_neg hy; have y3 := xI_neg hcc; have i1 := xI_iff hx hy; have i2 := xI_iff hx hcc; have i3 := xI_iff hx hs; have i4 := xI_iff hy hcc; have i5 := xI_iff hy hs; have i6 := xI_iff hcc hs; unfold b2i; split <;> first | rfl | (exfalso; simp only [y1, y2, y3, i1, i2, i3, i4, i5, i6, dist] at *; omega))
            · skip
              refine a_iload q145_108 rfl ?_
              refine a_if_lt (tgt := 124) q145_110 (by decide) (fun zc110 => ?_) (fun zc110 => ?_)
              · skip
                refine a_iconst (v := 0) q145_124 (by decide) ?_
                exact cutv zk125 (by have y1 := xI_neg hx; have y2 := xI_neg hy; have y3 := xI_neg hcc; have i1 := xI_iff hx hy; have i2 := xI_iff hx hcc; have i3 := xI_iff hx hs; have i4 := xI_iff hy hcc; have i5 := xI_iff hy hs; have i6 := xI_iff hcc hs; unfold b2i; split <;> first | rfl | (exfalso; simp only [y1, y2, y3, i1, i2, i3, i4, i5, i6, dist] at *; omega))
              · skip
                refine a_iload q145_113 rfl ?_
                refine a_iload q145_115 rfl ?_
                refine a_icmp_ne (tgt := 124) q145_117 (by decide) (fun zc117 => ?_) (fun zc117 => ?_)
                · skip
                  refine a_iconst (v := 0) q145_124 (by decide) ?_
                  exact cutv zk125 (by have y1 := xI_neg hx; have y2 := xI_neg hy; have y3 := xI_neg hcc; have i1 := xI_iff hx hy; have i2 := xI_iff hx hcc; have i3 := xI_iff hx hs; have i4 := xI_iff hy hcc; have i5 := xI_iff hy hs; have i6 := xI_iff hcc hs; unfold b2i; split <;> first | rfl | (exfalso; simp only [y1, y2, y3, i1, i2, i3, i4, i5, i6, dist] at *; omega))
                · skip
                  refine a_iconst (v := 1) q145_120 (by decide) ?_
                  refine a_goto (tgt := 125) q145_121 (by decide) ?_
                  exact cutv zk125 (by have y1 := xI_neg hx; have y2 := xI_neg hy; have y3 := xI_neg hcc; have i1 := xI_iff hx hy; have i2 := xI_iff hx hcc; have i3 := xI_iff hx hs; have i4 := xI_iff hy hcc; have i5 := xI_iff hy hs; have i6 := xI_iff hcc hs; unfold b2i; split <;> first | rfl | (exfalso; simp only [y1, y2, y3, i1, i2, i3, i4, i5, i6, dist] at *; omega))
      · skip
        refine a_iload_n (i := 3) q145_71 rfl rfl ?_
        refine a_iload q145_72 rfl ?_
        refine a_icmp_eq (tgt := 120) q145_74 (by decide) (fun zc74 => ?_) (fun zc74 => ?_)
        · skip
          refine a_iconst (v := 1) q145_120 (by decide) ?_
          refine a_goto (tgt := 125) q145_121 (by decide) ?_
          exact cutv zk125 (by have y1 := xI_neg hx; have y2 := xI_neg hy; have y3 := xI_neg hcc; have i1 := xI_iff hx hy; have i2 := xI_iff hx hcc; have i3 := xI_iff hx hs; have i4 := xI_iff hy hcc; have i5 := xI_iff hy hs; have i6 := xI_iff hcc hs; unfold b2i; split <;> first | rfl | (exfalso; simp only [y1, y2, y3, i1, i2, i3, i4, i5, i6, dist] at *; omega))
        · skip
          refine a_iload_n (i := 3) q145_77 rfl rfl ?_
          refine a_iload q145_78 rfl ?_
          refine a_icmp_eq (tgt := 120) q145_80 (by decide) (fun zc80 => ?_) (fun zc80 => ?_)
          · skip
            refine a_iconst (v := 1) q145_120 (by decide) ?_
            refine a_goto (tgt := 125) q145_121 (by decide) ?_
            exact cutv zk125 (by have y1 := xI_neg hx; have y2 := xI_neg hy; have y3 := xI_neg hcc; have i1 := xI_iff hx hy; have i2 := xI_iff hx hcc; have i3 := xI_iff hx hs; have i4 := xI_iff hy hcc; have i5 := xI_iff hy hs; have i6 := xI_iff hcc hs; unfold b2i; split <;> first | rfl | (exfalso; simp only [y1, y2, y3, i1, i2, i3, i4, i5, i6, dist] at *; omega))
          · skip
            refine a_iload_n (i := 3) q145_83 rfl rfl ?_
            refine a_iload q145_84 rfl ?_
            refine a_icmp_eq (tgt := 120) q145_86 (by decide) (fun zc86 => ?_) (fun zc86 => ?_)
            · skip
              refine a_iconst (v := 1) q145_120 (by decide) ?_
              refine a_goto (tgt := 125) q145_121 (by decide) ?_
              exact cutv zk125 (by have y1 := xI_neg hx; have y2 := xI_neg hy; have y3 := xI_neg hcc; have i1 := xI_iff hx hy; have i2 := xI_iff hx hcc; have i3 := xI_iff hx hs; have i4 := xI_iff hy hcc; have i5 := xI_iff hy hs; have i6 := xI_iff hcc hs; unfold b2i; split <;> first | rfl | (exfalso; simp only [y1, y2, y3, i1, i2, i3, i4, i5, i6, dist] at *; omega))
            · skip
              refine a_iload q145_89 rfl ?_
              refine a_if_lt (tgt := 108) q145_91 (by decide) (fun zc91 => ?_) (fun zc91 => ?_)
              · skip
                refine a_iload q145_108 rfl ?_
                refine a_if_lt (tgt := 124) q145_110 (by decide) (fun zc110 => ?_) (fun zc110 => ?_)
                · skip
                  refine a_iconst (v := 0) q145_124 (by decide) ?_
                  exact cutv zk125 (by have y1 := xI_neg hx; have y2 := xI_neg hy; have y3 := xI_neg hcc; have i1 := xI_iff hx hy; have i2 := xI_iff hx hcc; have i3 := xI_iff hx hs; have i4 := xI_iff hy hcc; have i5 := xI_iff hy hs; have i6 := xI_iff hcc hs; unfold b2i; split <;> first | rfl | (exfalso; simp only [y1, y2, y3, i1, i2, i3, i4, i5, i6, dist] at *; omega))
                · skip
                  refine a_iload q145_113 rfl ?_
                  refine a_iload q145_115 rfl ?_
                  refine a_icmp_ne (tgt := 124) q145_117 (by decide) (fun zc117 => ?_) (fun zc117 => ?_)
                  · skip
                    refine a_iconst (v := 0) q145_124 (by decide) ?_
                    exact cutv zk125 (by have y1 := xI_neg hx; have y2 := xI_neg hy; have y3 := xI_neg hcc; have i1 := xI_iff hx hy; have i2 := xI_iff hx hcc; have i3 := xI_iff hx hs; have i4 := xI_iff hy hcc; have i5 := xI_iff hy hs; have i6 := xI_iff hcc hs; unfold b2i; split <;> first | rfl | (exfalso; simp only [y1, y2, y3, i1, i2, i3, i4, i5, i6, dist] at *; omega))
                  · skip
                    refine a_iconst (v := 1) q145_120 (by decide) ?_
                    refine a_goto (tgt := 125) q145_121 (by decide) ?_
                    exact cutv zk125 (by have y1 := xI_neg hx; have y2 := xI_neg hy; have y3 := xI_neg hcc; have i1 := xI_iff hx hy; have i2 := xI_iff hx hcc; have i3 := xI_iff hx hs; have i4 := xI_iff hy hcc; have i5 := xI_iff hy hs; have i6 := xI_iff hcc hs; unfold b2i; split <;> first | rfl | (exfalso; simp only [y1, y2, y3, i1, i2, i3, i4, i5, i6, dist] at *; omega))
              · skip
                refine a_iload q145_94 rfl ?_
                refine a_iload q145_96 rfl ?_
                refine a_icmp_eq (tgt := 120) q145_98 (by decide) (fun zc98 => ?_) (fun zc98 => ?_)
                · skip
                  refine a_iconst (v := 1) q145_120 (by decide) ?_
                  refine a_goto (tgt := 125) q145_121 (by decide) ?_
                  exact cutv zk125 (by have y1 := xI_neg hx; have y2 := xI_neg hy; have y3 := xI_neg hcc; have i1 := xI_iff hx hy; have i2 := xI_iff hx hcc; have i3 := xI_iff hx hs; have i4 := xI_iff hy hcc; have i5 := xI_iff hy hs; have i6 := xI_iff hcc hs; unfold b2i; split <;> first | rfl | (exfalso; simp only [y1, y2, y3, i1, i2, i3, i4, i5, i6, dist] at *; omega))
                · skip
                  refine a_iload q145_101 rfl ?_
                  refine a_iload q145_103 rfl ?_
                  refine a_icmp_eq (tgt := 120) q145_105 (by decide) (fun zc105 => ?_) (fun zc105 => ?_)
                  · skip
                    refine a_iconst (v := 1) q145_120 (by decide) ?_
                    refine a_goto (tgt := 125) q145_121 (by decide) ?_
                    exact cutv zk125 (by have y1 := xI_neg hx; have y2 := xI_neg hy; have y3 := xI_neg hcc; have i1 := xI_iff hx hy; have i2 := xI_iff hx hcc; have i3 := xI_iff hx hs; have i4 := xI_iff hy hcc; have i5 := xI_iff hy hs; have i6 := xI_iff hcc hs; unfold b2i; split <;> first | rfl | (exfalso; simp only [y1, y2, y3, i1, i2, i3, i4, i5, i6, dist] at *; omega))
                  · skip
                    refine a_iload q145_108 rfl ?_
                    refine a_if_lt (tgt := 124) q145_110 (by decide) (fun zc110 => ?_) (fun zc110 => ?_)
                    · skip
                      refine a_iconst (v := 0) q145_124 (by decide) ?_
                      exact cutv zk125 (by have y1 := xI_neg hx; have y2 := xI_neg hy; have y3 := xI_neg hcc; have i1 := xI_iff hx hy; have i2 := xI_iff hx hcc; have i3 := xI_iff hx hs; have i4 := xI_iff hy hcc; have i5 := xI_iff hy hs; have i6 := xI_iff hcc hs; unfold b2i; split <;> first | rfl | (exfalso; simp only [y1, y2, y3, i1, i2, i3, i4, i5, i6, dist] at *; omega))
                    · skip
                      refine a_iload q145_113 rfl ?_
                      refine a_iload q145_115 rfl ?_
                      refine a_icmp_ne (tgt := 124) q145_117 (by decide) (fun zc117 => ?_) (fun zc117 => ?_)
                      · skip
                        refine a_iconst (v := 0) q145_124 (by decide) ?_
                        exact cutv zk125 (by have y1 := xI_neg hx; have y2 := xI_neg hy; have y3 := xI_neg hcc; have i1 := xI_iff hx hy; have i2 := xI_iff hx hcc; have i3 := xI_iff hx hs; have i4 := xI_iff hy hcc; have i5 := xI_iff hy hs; have i6 := xI_iff hcc hs; unfold b2i; split <;> first | rfl | (exfalso; simp only [y1, y2, y3, i1, i2, i3, i4, i5, i6, dist] at *; omega))
                      · skip
                        refine a_iconst (v := 1) q145_120 (by decide) ?_
                        refine a_goto (tgt := 125) q145_121 (by decide) ?_
                        exact cutv zk125 (by have y1 := xI_neg hx; have y2 := xI_neg hy; have y3 := xI_neg hcc; have i1 := xI_iff hx hy; have i2 := xI_iff hx hcc; have i3 := xI_iff hx hs; have i4 := xI_iff hy hcc; have i5 := xI_iff hy hs; have i6 := xI_iff hcc hs; unfold b2i; split <;> first | rfl | (exfalso; simp only [y1, y2, y3, i1, i2, i3, i4, i5, i6, dist] at *; omega))
    refine a_istore (i := 7) (lv' := [(0, _), (1, _), (2, _), (3, _), (4, _), (5, _), (6, _), (7, _)]) q145_125 rfl rfl ?_
    refine a_iconst (v := 0) q145_127 (by decide) ?_
    refine a_istore (i := 8) (lv' := [(0, _), (1, _), (2, _), (3, _), (4, _), (5, _), (6, _), (7, _), (8, _)]) q145_128 rfl rfl ?_
    by_cases hdi : dist x y c s
    · skip
      rw [show @b2i (¬ dist x y c s) (Classical.propDecidable _) = 0 from @b2i_f _ (Classical.propDecidable _) (fun zz => zz hdi)]
      exact l_way 9 (w := 0) hX2 hT hW hK hx hy hcc hs hdi rfl hB kk9
    · skip
      rw [show @b2i (¬ dist x y c s) (Classical.propDecidable _) = 1 from @b2i_t _ (Classical.propDecidable _) hdi]
      refine a_iload q145_130 rfl ?_
      refine a_bipush (v := 9) q145_132 (by decide) ?_
      refine a_icmp_ge (tgt := 334) q145_134 (by decide) (fun zc134 => absurd zc134 (by decide)) (fun zc134 => ?_)
      refine a_iload q145_137 rfl ?_
      refine a_if_ne (tgt := 334) q145_139 (by decide) (fun zc139 => ?_) (fun zc139 => absurd zc139 (by decide))
      refine AW.pop_less (x := (8, _)) (lv' := [(0, _), (1, _), (2, _), (3, _), (4, _), (5, _), (6, _), (7, _)]) ?_
      refine AW.pop_less (x := (7, _)) (lv' := [(0, _), (1, _), (2, _), (3, _), (4, _), (5, _), (6, _)]) ?_
      refine AW.wide (bc' := 36 * m9 + bc) (bs' := 270 * m9 + bs) (by omega) (by omega) ?_
      exact kk9 B (RB_to (RB_n hB 9 (fun j hj zz => hdi (by
        rw [show uix x y c s 0 + j = uix x y c s j by unfold uix; omega, tauL_uix hy hcc hs hj] at zz
        exact ((al_idx (show dgt (j / 3) (j % 3) x y c s from ⟨by omega, by omega, hx, hy, hcc, hs⟩)).mp zz).1))) (show uix x y c s 0 + 9 = uix x y c s 9 by unfold uix; omega))

theorem l_col (m9 : Nat) : ∀ {X : XS} {I : Nat → Int32} {A : Nat → Nat → Int32} {L : Nat → Nat → Int64} {Q : AO → AH → Prop} {K : Nat → Int32} {B : Nat → Int64} {n bc bs : Nat} {x y c : Nat} (hX2 : X.2 = 22) (hT : Tbl n I A L) (hW : Wsh I A) (hK : KO A K) (hx : x < 7) (hy : y < 7) (hm : c + m9 = 7) (hB : RBk I A L (uix x y c 0 0) B) (kk : ∀ B, RBk I A L (uix x y 7 0 0) B → AW X 145 346 [(0, .ref 0), (1, .ref 22), (2, .ref 23), (3, .int (xI x)), (4, .int (xI y))] [] (hp I A L [kc K, lc B]) bc bs Q), AW X 145 50 [(0, .ref 0), (1, .ref 22), (2, .ref 23), (3, .int (xI x)), (4, .int (xI y)), (5, .int (xI c))] [] (hp I A L [kc K, lc B]) (252 * m9 + bc) (1890 * m9 + bs) Q := by
  induction m9 with
  | zero =>
    intro X I A L Q K B n bc bs x y c hX2 hT hW hK hx hy hm hB kk
    refine a_iload q145_50 rfl ?_
    refine a_bipush (v := 6) q145_52 (by decide) ?_
    refine a_icmp_ge (tgt := 346) q145_54 (by decide) (fun zc54 => ?_) (fun zc54 => absurd ((xI_lt6 (by omega)).mpr (by omega)) zc54)
    refine AW.pop_less (x := (5, _)) (lv' := [(0, _), (1, _), (2, _), (3, _), (4, _)]) ?_
    refine AW.wide (bc' := bc) (bs' := bs) (by omega) (by omega) ?_
    exact kk B (by rw [show c = 7 by omega] at hB; exact hB)
  | succ m9 ih =>
    intro X I A L Q K B n bc bs x y c hX2 hT hW hK hx hy hm hB kk
    refine a_iload q145_50 rfl ?_
    refine a_bipush (v := 6) q145_52 (by decide) ?_
    refine a_icmp_ge (tgt := 346) q145_54 (by decide) (fun zc54 => absurd zc54 (fun zz => by have := (xI_lt6 (show c < 8 by omega)).mp zz; omega)) (fun zc54 => ?_)
    refine AW.wide (bc' := 36 * 7 + (252 * m9 + bc)) (bs' := 270 * 7 + (1890 * m9 + bs)) (by omega) (by omega) ?_
    refine a_iconst (v := (-1)) q145_57 (by decide) ?_
    refine AW.ti xI_0.symm ?_
    refine a_istore (i := 6) (lv' := [(0, _), (1, _), (2, _), (3, _), (4, _), (5, _), (6, _)]) q145_58 rfl rfl ?_
    refine l_siz 7 (s := 0) hX2 hT hW hK hx hy (by omega) rfl hB (fun B hB2 => ?_)
    refine a_iinc (v := xI (c + 1)) (lv' := [(0, _), (1, _), (2, _), (3, _), (4, _), (5, _)]) q145_340 rfl rfl (xI_up c) rfl ?_
    refine a_goto (tgt := 50) q145_343 (by decide) ?_
    exact ih hX2 hT hW hK hx hy (show c + 1 + m9 = 7 by omega) (RB_to hB2 (show uix x y c 7 0 = uix x y (c + 1) 0 0 by unfold uix; omega)) kk

theorem l_yy (m9 : Nat) : ∀ {X : XS} {I : Nat → Int32} {A : Nat → Nat → Int32} {L : Nat → Nat → Int64} {Q : AO → AH → Prop} {K : Nat → Int32} {B : Nat → Int64} {n bc bs : Nat} {x y : Nat} (hX2 : X.2 = 22) (hT : Tbl n I A L) (hW : Wsh I A) (hK : KO A K) (hx : x < 7) (hm : y + m9 = 7) (hB : RBk I A L (uix x y 0 0 0) B) (kk : ∀ B, RBk I A L (uix x 7 0 0 0) B → AW X 145 352 [(0, .ref 0), (1, .ref 22), (2, .ref 23), (3, .int (xI x))] [] (hp I A L [kc K, lc B]) bc bs Q), AW X 145 40 [(0, .ref 0), (1, .ref 22), (2, .ref 23), (3, .int (xI x)), (4, .int (xI y))] [] (hp I A L [kc K, lc B]) (1764 * m9 + bc) (13230 * m9 + bs) Q := by
  induction m9 with
  | zero =>
    intro X I A L Q K B n bc bs x y hX2 hT hW hK hx hm hB kk
    refine a_iload q145_40 rfl ?_
    refine a_bipush (v := 6) q145_42 (by decide) ?_
    refine a_icmp_ge (tgt := 352) q145_44 (by decide) (fun zc44 => ?_) (fun zc44 => absurd ((xI_lt6 (by omega)).mpr (by omega)) zc44)
    refine AW.pop_less (x := (4, _)) (lv' := [(0, _), (1, _), (2, _), (3, _)]) ?_
    refine AW.wide (bc' := bc) (bs' := bs) (by omega) (by omega) ?_
    exact kk B (by rw [show y = 7 by omega] at hB; exact hB)
  | succ m9 ih =>
    intro X I A L Q K B n bc bs x y hX2 hT hW hK hx hm hB kk
    refine a_iload q145_40 rfl ?_
    refine a_bipush (v := 6) q145_42 (by decide) ?_
    refine a_icmp_ge (tgt := 352) q145_44 (by decide) (fun zc44 => absurd zc44 (fun zz => by have := (xI_lt6 (show y < 8 by omega)).mp zz; omega)) (fun zc44 => ?_)
    refine AW.wide (bc' := 252 * 7 + (1764 * m9 + bc)) (bs' := 1890 * 7 + (13230 * m9 + bs)) (by omega) (by omega) ?_
    refine a_iconst (v := (-1)) q145_47 (by decide) ?_
    refine AW.ti xI_0.symm ?_
    refine a_istore (i := 5) (lv' := [(0, _), (1, _), (2, _), (3, _), (4, _), (5, _)]) q145_48 rfl rfl ?_
    refine l_col 7 (c := 0) hX2 hT hW hK hx (by omega) rfl hB (fun B hB2 => ?_)
    refine a_iinc (v := xI (y + 1)) (lv' := [(0, _), (1, _), (2, _), (3, _), (4, _)]) q145_346 rfl rfl (xI_up y) rfl ?_
    refine a_goto (tgt := 40) q145_349 (by decide) ?_
    exact ih hX2 hT hW hK hx (show y + 1 + m9 = 7 by omega) (RB_to hB2 (show uix x y 7 0 0 = uix x (y + 1) 0 0 0 by unfold uix; omega)) kk

theorem l_xx (m9 : Nat) : ∀ {X : XS} {I : Nat → Int32} {A : Nat → Nat → Int32} {L : Nat → Nat → Int64} {Q : AO → AH → Prop} {K : Nat → Int32} {B : Nat → Int64} {n bc bs : Nat} {x : Nat} (hX2 : X.2 = 22) (hT : Tbl n I A L) (hW : Wsh I A) (hK : KO A K)  (hm : x + m9 = 7) (hB : RBk I A L (uix x 0 0 0 0) B) (kk : ∀ B, RBk I A L (uix 7 0 0 0 0) B → AW X 145 358 [(0, .ref 0), (1, .ref 22), (2, .ref 23)] [] (hp I A L [kc K, lc B]) bc bs Q), AW X 145 31 [(0, .ref 0), (1, .ref 22), (2, .ref 23), (3, .int (xI x))] [] (hp I A L [kc K, lc B]) (12348 * m9 + bc) (92610 * m9 + bs) Q := by
  induction m9 with
  | zero =>
    intro X I A L Q K B n bc bs x hX2 hT hW hK hm hB kk
    refine a_iload_n (i := 3) q145_31 rfl rfl ?_
    refine a_bipush (v := 6) q145_32 (by decide) ?_
    refine a_icmp_ge (tgt := 358) q145_34 (by decide) (fun zc34 => ?_) (fun zc34 => absurd ((xI_lt6 (by omega)).mpr (by omega)) zc34)
    refine AW.pop_less (x := (3, _)) (lv' := [(0, _), (1, _), (2, _)]) ?_
    refine AW.wide (bc' := bc) (bs' := bs) (by omega) (by omega) ?_
    exact kk B (by rw [show x = 7 by omega] at hB; exact hB)
  | succ m9 ih =>
    intro X I A L Q K B n bc bs x hX2 hT hW hK hm hB kk
    refine a_iload_n (i := 3) q145_31 rfl rfl ?_
    refine a_bipush (v := 6) q145_32 (by decide) ?_
    refine a_icmp_ge (tgt := 358) q145_34 (by decide) (fun zc34 => absurd zc34 (fun zz => by have := (xI_lt6 (show x < 8 by omega)).mp zz; omega)) (fun zc34 => ?_)
    refine AW.wide (bc' := 1764 * 7 + (12348 * m9 + bc)) (bs' := 13230 * 7 + (92610 * m9 + bs)) (by omega) (by omega) ?_
    refine a_iconst (v := (-1)) q145_37 (by decide) ?_
    refine AW.ti xI_0.symm ?_
    refine a_istore (i := 4) (lv' := [(0, _), (1, _), (2, _), (3, _), (4, _)]) q145_38 rfl rfl ?_
    refine l_yy 7 (y := 0) hX2 hT hW hK (by omega) rfl hB (fun B hB2 => ?_)
    refine a_iinc (v := xI (x + 1)) (lv' := [(0, _), (1, _), (2, _), (3, _)]) q145_352 rfl rfl (xI_up x) rfl ?_
    refine a_goto (tgt := 31) q145_355 (by decide) ?_
    exact ih hX2 hT hW hK  (show x + 1 + m9 = 7 by omega) (RB_to hB2 (show uix x 7 0 0 0 = uix (x + 1) 0 0 0 0 by unfold uix; omega)) kk

theorem c_L_ranked {X : XS} {I : Nat → Int32} {A : Nat → Nat → Int32} {L : Nat → Nat → Int64} {Q : AO → AH → Prop} {n : Nat} (hT : Tbl n I A L) (hW : Wsh I A) (hq : ∀ K B, RBk I A L 21609 B → Q (.inl (some (.ref 23))) (hp I A L [kc K, lc B])) : Call X 145 [.ref 0] (hp I A L []) Q := by
  refine call_of (by decide) rfl rfl ?_
  refine a_aload_n (i := 0) q145_0 rfl rfl ?_
  refine a_callS (as := [_]) q145_1 rfl rfl ⟨rfl, rfl⟩ (Or.inr ⟨rfl, rfl, rfl⟩) (c_L_kinds hT.2.2.1 hT.1 (tv_ok hT) (fun K hKd => ck_r ?_))
  have hK : KO A K := KO_of hT hKd
  refine a_astore_n (i := 1) (lv' := [(0, _), (1, _)]) q145_4 rfl rfl rfl ?_
  refine a_bipush (v := 6) q145_5 (by decide) ?_
  refine a_newarray (a := 1) (kn := 23) (N := 6) q145_7 (by decide) rfl (by decide) rfl (by decide) rfl ⟨rfl, rfl⟩ ?_
  refine AW.hp (h' := (hp I A L [kc K, lc (fun _ => 0)])) rfl ?_
  refine a_astore_n (i := 2) (lv' := [(0, _), (1, _), (2, _)]) q145_9 rfl rfl rfl ?_
  refine a_iconst (v := 0) q145_10 (by decide) ?_
  refine a_istore_n (i := 3) (lv' := [(0, _), (1, _), (2, _), (3, _)]) q145_11 rfl rfl rfl ?_
  refine a_iload_n (i := 3) q145_12 rfl rfl ?_
  refine a_iconst (v := 5) q145_13 (by decide) ?_
  refine a_icmp_ge (tgt := 29) q145_14 (by decide) (fun zc14 => absurd zc14 (by decide)) (fun zc14 => ?_)
  refine a_aload_n (i := 2) q145_17 rfl rfl ?_
  refine a_iload_n (i := 3) q145_18 rfl rfl ?_
  refine a_ldc2 (v := 9223372036854775807) q145_19 (by decide) ?_
  refine a_last' q145_22 rfl (j := 0) (by decide) (by decide) (by decide) (h' := (hp I A L [kc K, lc (vp_updL (fun _ => 0) 0 MX)])) rfl ?_
  refine a_iinc (v := nI (0 + 1)) (lv' := [(0, _), (1, _), (2, _), (3, _)]) q145_23 rfl rfl (nI_1 (0)) rfl ?_
  refine a_goto (tgt := 12) q145_26 (by decide) ?_
  refine a_iload_n (i := 3) q145_12 rfl rfl ?_
  refine a_iconst (v := 5) q145_13 (by decide) ?_
  refine a_icmp_ge (tgt := 29) q145_14 (by decide) (fun zc14_1 => absurd zc14_1 (by decide)) (fun zc14_1 => ?_)
  refine a_aload_n (i := 2) q145_17 rfl rfl ?_
  refine a_iload_n (i := 3) q145_18 rfl rfl ?_
  refine a_ldc2 (v := 9223372036854775807) q145_19 (by decide) ?_
  refine a_last' q145_22 rfl (j := 1) (by decide) (by decide) (by decide) (h' := (hp I A L [kc K, lc (vp_updL (vp_updL (fun _ => 0) 0 MX) 1 MX)])) rfl ?_
  refine a_iinc (v := nI (1 + 1)) (lv' := [(0, _), (1, _), (2, _), (3, _)]) q145_23 rfl rfl (nI_1 (1)) rfl ?_
  refine a_goto (tgt := 12) q145_26 (by decide) ?_
  refine a_iload_n (i := 3) q145_12 rfl rfl ?_
  refine a_iconst (v := 5) q145_13 (by decide) ?_
  refine a_icmp_ge (tgt := 29) q145_14 (by decide) (fun zc14_2 => absurd zc14_2 (by decide)) (fun zc14_2 => ?_)
  refine a_aload_n (i := 2) q145_17 rfl rfl ?_
  refine a_iload_n (i := 3) q145_18 rfl rfl ?_
  refine a_ldc2 (v := 9223372036854775807) q145_19 (by decide) ?_
  refine a_last' q145_22 rfl (j := 2) (by decide) (by decide) (by decide) (h' := (hp I A L [kc K, lc (vp_updL (vp_updL (vp_updL (fun _ => 0) 0 MX) 1 MX) 2 MX)])) rfl ?_
  refine a_iinc (v := nI (2 + 1)) (lv' := [(0, _), (1, _), (2, _), (3, _)]) q145_23 rfl rfl (nI_1 (2)) rfl ?_
  refine a_goto (tgt := 12) q145_26 (by decide) ?_
  refine a_iload_n (i := 3) q145_12 rfl rfl ?_
  refine a_iconst (v := 5) q145_13 (by decide) ?_
  refine a_icmp_ge (tgt := 29) q145_14 (by decide) (fun zc14_3 => absurd zc14_3 (by decide)) (fun zc14_3 => ?_)
  refine a_aload_n (i := 2) q145_17 rfl rfl ?_
  refine a_iload_n (i := 3) q145_18 rfl rfl ?_
  refine a_ldc2 (v := 9223372036854775807) q145_19 (by decide) ?_
  refine a_last' q145_22 rfl (j := 3) (by decide) (by decide) (by decide) (h' := (hp I A L [kc K, lc (vp_updL (vp_updL (vp_updL (vp_updL (fun _ => 0) 0 MX) 1 MX) 2 MX) 3 MX)])) rfl ?_
  refine a_iinc (v := nI (3 + 1)) (lv' := [(0, _), (1, _), (2, _), (3, _)]) q145_23 rfl rfl (nI_1 (3)) rfl ?_
  refine a_goto (tgt := 12) q145_26 (by decide) ?_
  refine a_iload_n (i := 3) q145_12 rfl rfl ?_
  refine a_iconst (v := 5) q145_13 (by decide) ?_
  refine a_icmp_ge (tgt := 29) q145_14 (by decide) (fun zc14_4 => absurd zc14_4 (by decide)) (fun zc14_4 => ?_)
  refine a_aload_n (i := 2) q145_17 rfl rfl ?_
  refine a_iload_n (i := 3) q145_18 rfl rfl ?_
  refine a_ldc2 (v := 9223372036854775807) q145_19 (by decide) ?_
  refine a_last' q145_22 rfl (j := 4) (by decide) (by decide) (by decide) (h' := (hp I A L [kc K, lc (vp_updL (vp_updL (vp_updL (vp_updL (vp_updL (fun _ => 0) 0 MX) 1 MX) 2 MX) 3 MX) 4 MX)])) rfl ?_
  refine a_iinc (v := nI (4 + 1)) (lv' := [(0, _), (1, _), (2, _), (3, _)]) q145_23 rfl rfl (nI_1 (4)) rfl ?_
  refine a_goto (tgt := 12) q145_26 (by decide) ?_
  refine a_iload_n (i := 3) q145_12 rfl rfl ?_
  refine a_iconst (v := 5) q145_13 (by decide) ?_
  refine a_icmp_ge (tgt := 29) q145_14 (by decide) (fun zc14_5 => ?_) (fun zc14_5 => absurd (by decide) zc14_5)
  have hB0 : RBk I A L 0 (vp_updL (vp_updL (vp_updL (vp_updL (vp_updL (fun _ => 0) 0 MX) 1 MX) 2 MX) 3 MX) 4 MX) := RB_0 (fun j hj => by
    rcases (show j = 0 ∨ j = 1 ∨ j = 2 ∨ j = 3 ∨ j = 4 by omega) with rfl | rfl | rfl | rfl | rfl <;> rfl) rfl
  generalize (vp_updL (vp_updL (vp_updL (vp_updL (vp_updL (fun _ => 0) 0 MX) 1 MX) 2 MX) 3 MX) 4 MX) = B at hB0 ⊢
  refine a_iconst (v := (-1)) q145_29 (by decide) ?_
  refine AW.ti xI_0.symm ?_
  refine a_istore_n (i := 3) (lv' := [(0, _), (1, _), (2, _), (3, _)]) q145_30 rfl rfl rfl ?_
  refine AW.wide (bc' := 12348 * 7 + 0) (bs' := 92610 * 7 + 0) (Nat.le_of_ble_eq_true rfl) (Nat.le_of_ble_eq_true rfl) ?_
  refine l_xx 7 (x := 0) rfl hT hW hK rfl hB0 (fun B hB => ?_)
  refine a_aload_n (i := 2) q145_358 rfl rfl ?_
  refine a_areturn q145_359 ⟨_, rfl, Or.inr ⟨_, rfl⟩⟩ ?_
  exact hq K B hB
