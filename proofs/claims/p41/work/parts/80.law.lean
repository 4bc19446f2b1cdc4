/-! the law -/
theorem law_m : (mC 130 = 2 ∧ mC 148 = 221 ∧ mC 71 = 20 ∧ mC 114 = 2 ∧ mC 115 = 2 ∧ mC 146 = 25 ∧ mC 149 = 42 ∧ mC 150 = 86522) ∧ mS 130 = 408 ∧ mS 148 = 2582 ∧ mS 71 = 1374 ∧ mS 114 = 12 ∧ mS 115 = 12 ∧ mS 146 = 150 ∧ mS 149 = 252 ∧ mS 150 = 648792 ∧ (kC 7).2.2 = 8 := ⟨⟨rfl, rfl, rfl, rfl, rfl, rfl, rfl, rfl⟩, rfl, rfl, rfl, rfl, rfl, rfl, rfl, rfl, rfl⟩
theorem l_end {X : XS} {I : Nat → Int32} {A : Nat → Nat → Int32} {L : Nat → Nat → Int64} {Q : AO → AH → Prop} {v : Int32} (hr : RelL I A L) (hq : ∀ h, Q (.inl (some (.int 1))) h) : AW X 151 111 [(0, .ref 1003), (1, .ref 0), (2, .ref 1), (3, .int v)] [] (hp I A L []) 300 1800 Q := by
  obtain ⟨n, hT, hW, h18, hC⟩ := id hr
  have h := ok_of hT hW h18 hC
  have h40 := hT.1
  obtain ⟨k, hk7, hk5⟩ := ok_7 h
  have nr : ¬ isRow I (nI n) := fun y => by
    have y2 := y.2.1
    rw [hT.2.1] at y2
    have y3 := i_lt.mp y2
    omega
  refine a_aload_n (i := 2) q151_111 rfl rfl ?_
  refine a_sipush (v := 10000) q151_112 (by decide) ?_
  refine a_iconst (v := 0) q151_115 (by decide) ?_
  refine a_iconst (v := 0) q151_116 (by decide) ?_
  refine a_iconst (v := 0) q151_117 (by decide) ?_
  refine a_iconst (v := 0) q151_118 (by decide) ?_
  refine a_iconst (v := 0) q151_119 (by decide) ?_
  refine a_callSW (as := [_, _, _, _, _, _, _]) q151_120 rfl rfl ⟨rfl, rfl⟩ rfl ?_
  refine c_L_addRow (hn := hT.2.1) (hn40 := hT.1) (h1 := fun _ => ?_) (h2 := fun y => absurd y (by decide)) (h3 := fun y => absurd y (by decide))
  refine ck_r ?_
  refine a_ldc1 (v := (-900001)) q151_123 (by decide) ?_
  refine a_icmp_ne (tgt := 245) q151_125 (by decide) (fun zc125 => absurd zc125 (neN rfl)) (fun zc125 => ?_)
  refine a_aload_n (i := 2) q151_128 rfl rfl ?_
  refine a_iconst (v := 0) q151_129 (by decide) ?_
  refine a_iconst (v := 0) q151_130 (by decide) ?_
  refine a_iconst (v := 0) q151_131 (by decide) ?_
  refine a_iconst (v := 0) q151_132 (by decide) ?_
  refine a_iconst (v := 0) q151_133 (by decide) ?_
  refine a_sipush (v := (-10001)) q151_134 (by decide) ?_
  refine a_callSW (as := [_, _, _, _, _, _, _]) q151_137 rfl rfl ⟨rfl, rfl⟩ rfl ?_
  refine c_L_addRow (hn := hT.2.1) (hn40 := hT.1) (h1 := fun _ => ?_) (h2 := fun y => absurd y (by decide)) (h3 := fun y => absurd y (by decide))
  refine ck_r ?_
  refine a_ldc1 (v := (-900001)) q151_140 (by decide) ?_
  refine a_icmp_ne (tgt := 245) q151_142 (by decide) (fun zc142 => absurd zc142 (neN rfl)) (fun zc142 => ?_)
  refine a_aload_n (i := 2) q151_145 rfl rfl ?_
  refine a_aload_n (i := 1) q151_146 rfl rfl ?_
  refine a_iconst (v := 0) q151_147 (by decide) ?_
  refine a_iald' q151_148 rfl (j := 0) rfl (by decide) (by decide) ?_
  refine AW.ti (show _ = nI n from hT.2.2.1) ?_
  refine a_callSW (as := [_, _]) q151_149 rfl rfl ⟨rfl, rfl⟩ rfl ?_
  refine c_L_dropRow (hn := hT.2.1) (hn40 := hT.1) (h1 := fun _ => ?_) (h2 := fun j m ej em hj => absurd ((nI_eq (a := n) (b := j) (by omega) (by omega)).mp ej) (by omega))
  refine ck_r ?_
  refine a_ldc1 (v := (-900001)) q151_152 (by decide) ?_
  refine a_icmp_ne (tgt := 245) q151_154 (by decide) (fun zc154 => absurd zc154 (neN rfl)) (fun zc154 => ?_)
  refine a_aload_n (i := 2) q151_157 rfl rfl ?_
  refine a_iconst (v := (-1)) q151_158 (by decide) ?_
  refine a_iconst (v := 0) q151_159 (by decide) ?_
  refine a_iconst (v := 0) q151_160 (by decide) ?_
  refine a_callSW (as := [_, _, _, _]) q151_161 rfl rfl ⟨rfl, rfl⟩ rfl ?_
  refine c_L_put (hn := hT.2.1) (hn40 := hT.1) (h1 := fun _ => ?_) (h2 := fun y => absurd y.1.1 (by decide)) (h3 := fun j k _ _ ej => absurd (ej ▸ nI_pos' (by omega)) (show ¬ (0 : Int32) ≤ -1 by decide))
  refine ck_r ?_
  refine a_ldc1 (v := (-900001)) q151_164 (by decide) ?_
  refine a_icmp_ne (tgt := 245) q151_166 (by decide) (fun zc166 => absurd zc166 (neN rfl)) (fun zc166 => ?_)
  refine a_aload_n (i := 2) q151_169 rfl rfl ?_
  refine a_aload_n (i := 1) q151_170 rfl rfl ?_
  refine a_iconst (v := 0) q151_171 (by decide) ?_
  refine a_iald' q151_172 rfl (j := 0) rfl (by decide) (by decide) ?_
  refine AW.ti (show _ = nI n from hT.2.2.1) ?_
  refine a_iconst (v := 0) q151_173 (by decide) ?_
  refine a_iconst (v := 0) q151_174 (by decide) ?_
  refine a_callSW (as := [_, _, _, _]) q151_175 rfl rfl ⟨rfl, rfl⟩ rfl ?_
  refine c_L_put (hn := hT.2.1) (hn40 := hT.1) (h1 := fun _ => ?_) (h2 := fun y => absurd y.1 nr) (h3 := fun j k hj _ ej => absurd ((nI_eq (a := n) (b := j) (by omega) (by omega)).mp ej) (by omega))
  refine ck_r ?_
  refine a_ldc1 (v := (-900001)) q151_178 (by decide) ?_
  refine a_icmp_ne (tgt := 245) q151_180 (by decide) (fun zc180 => absurd zc180 (neN rfl)) (fun zc180 => ?_)
  refine a_aload_n (i := 2) q151_183 rfl rfl ?_
  refine a_bipush (v := 6) q151_184 (by decide) ?_
  refine a_callSW (as := [_, _]) q151_186 rfl rfl ⟨rfl, rfl⟩ rfl ?_
  refine c_L_different (h0 := fun y => absurd y (by decide)) (h1 := fun _ => ?_)
  refine ck_r ?_
  refine a_ldc1 (v := (-900001)) q151_189 (by decide) ?_
  refine a_icmp_ne (tgt := 245) q151_191 (by decide) (fun zc191 => absurd zc191 (neN rfl)) (fun zc191 => ?_)
  refine a_aload_n (i := 2) q151_194 rfl rfl ?_
  refine a_iconst (v := (-1)) q151_195 (by decide) ?_
  refine a_callSW (as := [_, _]) q151_196 rfl rfl ⟨rfl, rfl⟩ rfl ?_
  refine c_L_sumOf (h0 := fun y => absurd y (by decide)) (h1 := fun _ => ?_)
  refine ck_r ?_
  refine a_ldc2 (v := (-900001)) q151_199 (by decide) ?_
  refine a_lcmp q151_202 ?_
  refine AW.ti (show lg_cmp (-900001) (-900001) = 0 by decide) ?_
  refine a_if_ne (tgt := 245) q151_203 (by decide) (fun zc203 => absurd zc203 (by decide)) (fun zc203 => ?_)
  refine a_aload_n (i := 2) q151_206 rfl rfl ?_
  refine a_bipush (v := 6) q151_207 (by decide) ?_
  refine a_callSW (as := [_, _]) q151_209 rfl rfl ⟨rfl, rfl⟩ rfl ?_
  refine c_L_meanOf (hne := fun y => absurd y (by decide)) (h1 := fun _ => ?_) (h2 := fun y => absurd y (by decide)) (h0 := fun y => absurd y (by decide))
  refine ck_r ?_
  refine a_ldc2d (v := 13919350198670196736) q151_212 (by decide) ?_
  refine a_dcmp q151_215 ?_
  refine AW.ti (show Op.cmpValue (FP.dcmp 13919350198670196736 13919350198670196736) .l = 0 by decide) ?_
  refine a_if_ne (tgt := 245) q151_216 (by decide) (fun zc216 => absurd zc216 (by decide)) (fun zc216 => ?_)
  refine a_aload_n (i := 2) q151_219 rfl rfl ?_
  refine a_iconst (v := (-1)) q151_220 (by decide) ?_
  refine a_callSW (as := [_, _]) q151_221 rfl rfl ⟨rfl, rfl⟩ rfl ?_
  refine c_L_filled (hne := fun y => absurd y (by decide)) (h1 := fun _ => ?_) (h2 := fun y => absurd y (by decide)) (h0 := fun y => absurd y (by decide))
  refine ck_r ?_
  refine a_ldcf (v := 3378231824) q151_224 (by decide) ?_
  refine a_fcmp q151_226 ?_
  refine AW.ti (show Op.cmpValue (FP.fcmp 3378231824 3378231824) .l = 0 by decide) ?_
  refine a_if_ne (tgt := 245) q151_227 (by decide) (fun zc227 => absurd zc227 (by decide)) (fun zc227 => ?_)
  refine a_aload_n (i := 2) q151_230 rfl rfl ?_
  refine a_bipush (v := 6) q151_231 (by decide) ?_
  refine a_callSW (as := [_, _]) q151_233 rfl rfl ⟨rfl, rfl⟩ rfl ?_
  refine c_L_kindOf (h0 := fun y => absurd y (by decide)) (h1 := fun _ => ?_)
  refine ck_r ?_
  refine a_ldc1 (v := (-900001)) q151_236 (by decide) ?_
  refine a_icmp_ne (tgt := 245) q151_238 (by decide) (fun zc238 => absurd zc238 (neN rfl)) (fun zc238 => ?_)
  refine a_iconst (v := 1) q151_241 (by decide) ?_
  refine a_goto (tgt := 246) q151_242 (by decide) ?_
  refine a_istore_n (i := 3) (lv' := [(0, _), (1, _), (2, _), (3, _)]) q151_246 rfl rfl rfl ?_
  refine a_iload_n (i := 3) q151_247 rfl rfl ?_
  refine a_if_eq (tgt := 397) q151_248 (by decide) (fun zc248 => absurd zc248 (by decide)) (fun zc248 => ?_)
  refine a_aload_n (i := 2) q151_251 rfl rfl ?_
  refine a_bipush (v := 6) q151_252 (by decide) ?_
  refine a_iconst (v := 2) q151_254 (by decide) ?_
  refine a_callSW (as := [_, _, _]) q151_255 rfl rfl ⟨rfl, rfl⟩ rfl ?_
  refine c_L_force (hn := hT.2.1) (hn40 := hT.1) (h1 := fun _ => ?_) (h2 := fun y => absurd y (by decide)) (h3 := fun j hj ej _ => absurd ((nI_eq (a := 6) (b := j) (by decide) (by omega)).mp ej) (by omega))
  refine ck_r ?_
  refine a_ldc1 (v := (-900001)) q151_258 (by decide) ?_
  refine a_icmp_ne (tgt := 397) q151_260 (by decide) (fun zc260 => absurd zc260 (neN rfl)) (fun zc260 => ?_)
  refine a_aload_n (i := 2) q151_263 rfl rfl ?_
  refine a_iconst (v := 0) q151_264 (by decide) ?_
  refine a_iconst (v := 1) q151_265 (by decide) ?_
  refine a_callSW (as := [_, _, _]) q151_266 rfl rfl ⟨rfl, rfl⟩ rfl ?_
  refine c_L_force (hn := hT.2.1) (hn40 := hT.1) (h1 := fun y => absurd (by decide) y) (h2 := fun _ _ => ?_) (h3 := fun j _ _ y => absurd y (by decide))
  refine ck_r ?_
  refine a_ldc1 (v := (-900002)) q151_269 (by decide) ?_
  refine a_icmp_ne (tgt := 397) q151_271 (by decide) (fun zc271 => absurd zc271 (neN rfl)) (fun zc271 => ?_)
  refine a_aload_n (i := 2) q151_274 rfl rfl ?_
  refine a_iconst (v := 0) q151_275 (by decide) ?_
  refine a_iconst (v := 5) q151_276 (by decide) ?_
  refine a_callSW (as := [_, _, _]) q151_277 rfl rfl ⟨rfl, rfl⟩ rfl ?_
  refine c_L_force (hn := hT.2.1) (hn40 := hT.1) (h1 := fun y => absurd (by decide) y) (h2 := fun _ _ => ?_) (h3 := fun j _ _ y => absurd y (by decide))
  refine ck_r ?_
  refine a_ldc1 (v := (-900002)) q151_280 (by decide) ?_
  refine a_icmp_ne (tgt := 397) q151_282 (by decide) (fun zc282 => absurd zc282 (neN rfl)) (fun zc282 => ?_)
  refine a_aload_n (i := 2) q151_285 rfl rfl ?_
  refine a_iconst (v := (-1)) q151_286 (by decide) ?_
  refine a_callSW (as := [_, _]) q151_287 rfl rfl ⟨rfl, rfl⟩ rfl ?_
  refine c_L_unforce (hn := hT.2.1) (hn40 := hT.1) (h1 := fun _ => ?_) (h2 := fun j _ ej _ => absurd (ej ▸ nI_pos' (by omega)) (show ¬ (0 : Int32) ≤ -1 by decide)) (h3 := fun j _ ej _ => absurd (ej ▸ nI_pos' (by omega)) (show ¬ (0 : Int32) ≤ -1 by decide))
  refine ck_r ?_
  refine a_ldc1 (v := (-900001)) q151_290 (by decide) ?_
  refine a_icmp_ne (tgt := 397) q151_292 (by decide) (fun zc292 => absurd zc292 (neN rfl)) (fun zc292 => ?_)
  refine a_aload_n (i := 2) q151_295 rfl rfl ?_
  refine a_bipush (v := 6) q151_296 (by decide) ?_
  refine a_iconst (v := 1) q151_298 (by decide) ?_
  refine a_callSW (as := [_, _, _]) q151_299 rfl rfl ⟨rfl, rfl⟩ rfl ?_
  refine c_L_wish (h1 := fun _ => ?_) (h0 := fun y => absurd y (by decide))
  refine ck_r ?_
  refine a_ldc1 (v := (-900001)) q151_302 (by decide) ?_
  refine a_icmp_ne (tgt := 397) q151_304 (by decide) (fun zc304 => absurd zc304 (neN rfl)) (fun zc304 => ?_)
  refine a_aload_n (i := 2) q151_307 rfl rfl ?_
  refine a_bipush (v := 113) q151_308 (by decide) ?_
  refine a_callSW (as := [_, _]) q151_310 rfl rfl ⟨rfl, rfl⟩ rfl ?_
  refine c_L_wishMark (hm := (pk_charN (q := 113) (by decide)).1) (hf := (pk_charN (q := 113) (by decide)).2) (hn4 := mk16 hW.2.2.2.1) (h1 := fun _ _ => ?_) (h0 := fun y => absurd y (by decide))
  refine ck_r ?_
  refine a_ldc1 (v := (-900001)) q151_313 (by decide) ?_
  refine a_icmp_ne (tgt := 397) q151_315 (by decide) (fun zc315 => absurd zc315 (neN rfl)) (fun zc315 => ?_)
  refine a_aload_n (i := 2) q151_318 rfl rfl ?_
  refine a_iconst (v := 0) q151_319 (by decide) ?_
  refine a_iconst (v := 4) q151_320 (by decide) ?_
  refine a_callSW (as := [_, _, _]) q151_321 rfl rfl ⟨rfl, rfl⟩ rfl ?_
  refine c_L_forbid (h1 := fun _ => ?_) (h2 := fun _ y => absurd y (by decide)) (h3 := fun _ y => absurd y (by decide))
  refine ck_r ?_
  refine a_ldc1 (v := (-900001)) q151_324 (by decide) ?_
  refine a_icmp_ne (tgt := 397) q151_326 (by decide) (fun zc326 => absurd zc326 (neN rfl)) (fun zc326 => ?_)
  refine a_aload_n (i := 2) q151_329 rfl rfl ?_
  refine a_iconst (v := (-1)) q151_330 (by decide) ?_
  refine a_iconst (v := 0) q151_331 (by decide) ?_
  refine a_callSW (as := [_, _, _]) q151_332 rfl rfl ⟨rfl, rfl⟩ rfl ?_
  refine c_L_allow (h1 := fun _ => ?_) (h2 := fun y => absurd y (by decide)) (h3 := fun y => absurd y (by decide))
  refine ck_r ?_
  refine a_ldc1 (v := (-900001)) q151_335 (by decide) ?_
  refine a_icmp_ne (tgt := 397) q151_337 (by decide) (fun zc337 => absurd zc337 (neN rfl)) (fun zc337 => ?_)
  refine a_aload_n (i := 2) q151_340 rfl rfl ?_
  refine a_bipush (v := 8) q151_341 (by decide) ?_
  refine a_iconst (v := 0) q151_343 (by decide) ?_
  refine a_callSW (as := [_, _, _]) q151_344 rfl rfl ⟨rfl, rfl⟩ rfl ?_
  refine c_L_setWeight (h1 := fun _ => ?_) (h2 := fun y => absurd y (by decide)) (h3 := fun j hj ej _ => absurd ((nI_eq (a := 8) (b := j) (by decide) (by omega)).mp ej) (by omega))
  refine ck_r ?_
  refine a_ldc1 (v := (-900001)) q151_347 (by decide) ?_
  refine a_icmp_ne (tgt := 397) q151_349 (by decide) (fun zc349 => absurd zc349 (neN rfl)) (fun zc349 => ?_)
  refine a_aload_n (i := 2) q151_352 rfl rfl ?_
  refine a_iconst (v := 0) q151_353 (by decide) ?_
  refine a_bipush (v := 100) q151_354 (by decide) ?_
  refine a_callSW (as := [_, _, _]) q151_356 rfl rfl ⟨rfl, rfl⟩ rfl ?_
  refine c_L_setWeight (h1 := fun y => absurd (by decide) y) (h2 := fun _ _ => ?_) (h3 := fun j _ _ y => absurd y (by decide))
  refine ck_r ?_
  refine a_ldc1 (v := (-900002)) q151_359 (by decide) ?_
  refine a_icmp_ne (tgt := 397) q151_361 (by decide) (fun zc361 => absurd zc361 (neN rfl)) (fun zc361 => ?_)
  refine a_aload_n (i := 2) q151_364 rfl rfl ?_
  refine a_iconst (v := (-1)) q151_365 (by decide) ?_
  refine a_callSW (as := [_, _]) q151_366 rfl rfl ⟨rfl, rfl⟩ rfl ?_
  refine c_L_cost (hk := hk7) (hk5 := hk5) (h1 := fun _ => ?_) (h0 := fun y => absurd y.1 (by decide))
  refine ck_r ?_
  refine a_ldc1 (v := (-900001)) q151_369 (by decide) ?_
  refine a_icmp_ne (tgt := 397) q151_371 (by decide) (fun zc371 => absurd zc371 (neN rfl)) (fun zc371 => ?_)
  obtain ⟨kb, hk7b, hk5b⟩ := ok_7 (ok_R h)
  refine a_aload_n (i := 2) q151_374 rfl rfl ?_
  refine a_iconst (v := (-1)) q151_375 (by decide) ?_
  refine a_bipush (v := 9) q151_376 (by decide) ?_
  refine a_callSW (as := [_, _, _]) q151_378 rfl rfl ⟨rfl, rfl⟩ rfl ?_
  refine c_L_column (hk := hk7b) (hk5 := hk5b) (h1 := fun _ => ?_) (h2 := fun y => absurd y.1 (by decide)) (h0 := fun y => absurd y.1 (by decide))
  refine ck_r ?_
  refine a_ldc1 (v := (-900001)) q151_381 (by decide) ?_
  refine a_icmp_ne (tgt := 397) q151_383 (by decide) (fun zc383 => absurd zc383 (neN rfl)) (fun zc383 => ?_)
  refine a_aload_n (i := 2) q151_386 rfl rfl ?_
  refine a_cv0 q151_387 rfl rfl ⟨rfl, rfl⟩ rfl ?_
  refine q_sound (ok_R (ok_R h)) (fun I2 L2 _ => ?_)
  refine ck_r ?_
  refine a_if_eq (tgt := 397) q151_390 (by decide) (fun zc390 => absurd zc390 (by decide)) (fun zc390 => ?_)
  refine a_iconst (v := 1) q151_393 (by decide) ?_
  refine a_goto (tgt := 398) q151_394 (by decide) ?_
  refine a_ireturn q151_398 (nr_bool rfl (by decide)) ?_
  exact hq _

theorem l_law (m9 : Nat) : ∀ {X : XS} {I : Nat → Int32} {A : Nat → Nat → Int32} {L : Nat → Nat → Int64} {Q : AO → AH → Prop} {k : Nat} (hm : k + m9 = 16) (hX : X.1.1 ≤ 260) (hr : RelL I A L) (hq : ∀ h, Q (.inl (some (.int 1))) h), AW X 151 53 [(0, .ref 1003), (1, .ref 0), (2, .ref 1), (3, .int (nI k))] [] (hp I A L []) (67 * (m9) + 86522 * (((m9) + 3) / 5) + 300) (402 * (m9) + 648792 * (((m9) + 3) / 5) + 1800) Q := by
  induction m9 with
  | zero =>
    intro X I A L Q k hm hX hr hq
    refine a_iload_n (i := 3) q151_53 rfl rfl ?_
    refine a_bipush (v := 16) q151_54 (by decide) ?_
    refine a_icmp_ge (tgt := 111) q151_56 (by decide) (fun zc56 => ?_) (fun zc56 => absurd (nI_le (show 16 ≤ k by omega) (by omega)) zc56)
    refine AW.wide (bc' := 300) (bs' := 1800) (by omega) (by omega) ?_
    exact l_end hr hq
  | succ m9 ih =>
    intro X I A L Q k hm hX hr hq
    obtain ⟨⟨c130, c148, c71, c114, c115, c146, c149, c150⟩, s130, s148, s71, s114, s115, s146, s149, s150, k7⟩ := law_m
    refine a_iload_n (i := 3) q151_53 rfl rfl ?_
    refine a_bipush (v := 16) q151_54 (by decide) ?_
    refine a_icmp_ge (tgt := 111) q151_56 (by decide) (fun zc56 => absurd zc56 (nI_ge (show k < 16 by omega) (by decide))) (fun zc56 => ?_)
    refine a_sipush (v := 140) q151_59 (by decide) ?_
    refine a_bipush (v := 14) q151_62 (by decide) ?_
    refine a_iload_n (i := 3) q151_64 rfl rfl ?_
    refine a_imul q151_65 ?_
    refine AW.ti (show (14 : Int32) * nI k = nI (14 * k) by rw [show (14 : Int32) = nI 14 from rfl, pk_mul]) ?_
    refine a_iadd q151_66 ?_
    refine AW.ti (nI_add 140 (14 * k)) ?_
    refine a_istore (i := 4) (lv' := [(0, _), (1, _), (2, _), (3, _), (4, _)]) q151_67 rfl rfl ?_
    refine a_aload_n (i := 2) q151_69 rfl rfl ?_
    refine a_aload_n (i := 1) q151_70 rfl rfl ?_
    refine a_aload_n (i := 0) q151_71 rfl rfl ?_
    refine a_iload q151_72 rfl ?_
    refine a_callS (as := [_, _, _, _]) q151_74 rfl rfl ⟨Nat.ble_eq_true_of_le (by omega), Nat.ble_eq_true_of_le (by omega)⟩ (Or.inr ⟨rfl, rfl, rfl⟩) (c_L_isSet hX (show 140 + 14 * k < 800000 by omega) hr (fun I2 A2 L2 hr2 => ck_r ?_))
    obtain ⟨n, hT, hrest⟩ := id hr2
    refine a_if_eq (tgt := 103) q151_77 (by decide) (fun zc77 => absurd zc77 (by decide)) (fun zc77 => ?_)
    refine a_aload_n (i := 2) q151_80 rfl rfl ?_
    refine a_aload_n (i := 1) q151_81 rfl rfl ?_
    refine a_cs2 q151_82 rfl ⟨Nat.ble_eq_true_of_le (by omega), Nat.ble_eq_true_of_le (by omega)⟩ rfl ?_
    refine c_L_isTable hT ?_
    refine ck_r ?_
    refine a_if_eq (tgt := 103) q151_85 (by decide) (fun zc85 => absurd zc85 (by decide)) (fun zc85 => ?_)
    refine a_iload_n (i := 3) q151_88 rfl rfl ?_
    refine a_iconst (v := 5) q151_89 (by decide) ?_
    refine a_irem q151_90 (by decide) ?_
    refine AW.ti (pk_rem (a := k) (d := 5) (by omega) (by decide) (by decide)) ?_
    refine a_iconst (v := 4) q151_91 (by decide) ?_
    refine a_icmp_ne (tgt := 105) q151_92 (by decide) (fun zc92 => ?_) (fun zc92 => ?_)
    · skip
      refine a_iinc (v := nI (k + 1)) (lv' := [(0, _), (1, _), (2, _), (3, _), (4, _)]) q151_105 rfl rfl (nI_1 k) rfl ?_
      refine a_goto (tgt := 53) q151_108 (by decide) ?_
      refine AW.less (lv' := [(0, .ref 1003), (1, .ref 0), (2, .ref 1), (3, .int (nI (k + 1)))]) (fun q hq => List.mem_append_left [_] hq) ?_
      refine AW.wide (bc' := 67 * (m9) + 86522 * (((m9) + 3) / 5) + 300) (bs' := 402 * (m9) + 648792 * (((m9) + 3) / 5) + 1800) (by omega) (by omega) ?_
      exact ih (show k + 1 + m9 = 16 by omega) hX hr2 hq
    · skip
      have z4 : k % 5 = 4 := (nI_eq (a := k % 5) (b := 4) (by omega) (by decide)).mp zc92
      refine a_aload_n (i := 2) q151_95 rfl rfl ?_
      refine a_aload_n (i := 1) q151_96 rfl rfl ?_
      refine a_callS (as := [_, _]) q151_97 rfl rfl ⟨Nat.ble_eq_true_of_le (by omega), Nat.ble_eq_true_of_le (by omega)⟩ (Or.inr ⟨rfl, rfl, rfl⟩) (c_L_isRanked hr2 (fun I3 L3 hr3 => ck_r ?_))
      refine a_if_ne (tgt := 105) q151_100 (by decide) (fun zc100 => ?_) (fun zc100 => absurd zc100 (by decide))
      refine a_iinc (v := nI (k + 1)) (lv' := [(0, _), (1, _), (2, _), (3, _), (4, _)]) q151_105 rfl rfl (nI_1 k) rfl ?_
      refine a_goto (tgt := 53) q151_108 (by decide) ?_
      refine AW.less (lv' := [(0, .ref 1003), (1, .ref 0), (2, .ref 1), (3, .int (nI (k + 1)))]) (fun q hq => List.mem_append_left [_] hq) ?_
      refine AW.wide (bc' := 67 * (m9) + 86522 * (((m9) + 3) / 5) + 300) (bs' := 402 * (m9) + 648792 * (((m9) + 3) / 5) + 1800) (by omega) (by omega) ?_
      exact ih (show k + 1 + m9 = 16 by omega) hX hr3 hq

theorem law_run {X : XS} {Q : AO → AH → Prop} (hX : X.1.1 ≤ 260) (h0 : X.2 = 0) (hq : ∀ h, Q (.inl (some (.int 1))) h) : AW X 151 0 [(0, .ref 1003)] [] [] 1004702 6082116 Q := by
  obtain ⟨⟨c130, c148, c71, c114, c115, c146, c149, c150⟩, s130, s148, s71, s114, s115, s146, s149, s150, k7⟩ := law_m
  refine a_callS (as := []) q151_0 rfl rfl ⟨Nat.ble_eq_true_of_le (by omega), Nat.ble_eq_true_of_le (by omega)⟩ (Or.inr ⟨rfl, rfl, rfl⟩) (c_L_begun (ck_r ?_))
  refine a_astore_n (i := 1) (lv' := [(0, _), (1, _)]) q151_3 rfl rfl rfl ?_
  refine a_aload_n (i := 0) q151_4 rfl rfl ?_
  refine a_aload_n (i := 1) q151_5 rfl rfl ?_
  refine a_callS (as := [_, _]) q151_6 rfl rfl ⟨Nat.ble_eq_true_of_le (by omega), Nat.ble_eq_true_of_le (by omega)⟩ (Or.inr ⟨rfl, rfl, rfl⟩) (c_L_begun_ hX (fun I A L hr => ck_r ?_))
  refine a_astore_n (i := 2) (lv' := [(0, _), (1, _), (2, _)]) q151_9 rfl rfl rfl ?_
  refine a_aload_n (i := 2) q151_10 rfl rfl ?_
  refine a_ifnull q151_11 ?_
  refine a_new (a := 7) (kn := 22) q151_14 rfl (by decide) rfl ⟨Nat.ble_eq_true_of_le (by omega), Nat.ble_eq_true_of_le (by omega)⟩ ?_
  refine a_dup q151_17 rfl ?_
  refine AW.hp (h' := hp I A L [.inl (7, dfl 7)]) rfl ?_
  refine a_callI (as := []) q151_18 rfl rfl ⟨Nat.ble_eq_true_of_le (by omega), Nat.ble_eq_true_of_le (by omega)⟩ (Or.inr ⟨rfl, rfl, rfl⟩) (c_X9_init_w (ck_v ?_))
  refine AW.hp (nob_w PLC) ?_
  refine a_iconst (v := 0) q151_21 (by decide) ?_
  refine a_callSW (as := [_, _]) q151_22 rfl rfl ⟨Nat.ble_eq_true_of_le (by omega), Nat.ble_eq_true_of_le (by omega)⟩ rfl ?_
  refine c_L_meanOf_w ?_
  refine ck_r ?_
  refine a_ldc2d (v := 13919350207260131328) q151_25 (by decide) ?_
  refine a_dcmp q151_28 ?_
  refine AW.ti (show Op.cmpValue (FP.dcmp 13919350207260131328 13919350207260131328) .l = 0 by decide) ?_
  refine a_if_ne (tgt := 49) q151_29 (by decide) (fun zc29 => absurd zc29 (by decide)) (fun zc29 => ?_)
  refine AW.hp (nob_d PLC) ?_
  refine AW.drop (by rw [h0]; rfl) ?_
  refine a_new (a := 7) (kn := 22) q151_32 rfl (by decide) rfl ⟨Nat.ble_eq_true_of_le (by omega), Nat.ble_eq_true_of_le (by omega)⟩ ?_
  refine a_dup q151_35 rfl ?_
  refine AW.hp (h' := hp I A L [.inl (7, dfl 7)]) rfl ?_
  refine a_callI (as := []) q151_36 rfl rfl ⟨Nat.ble_eq_true_of_le (by omega), Nat.ble_eq_true_of_le (by omega)⟩ (Or.inr ⟨rfl, rfl, rfl⟩) (c_X9_init_w (ck_v ?_))
  refine AW.hp (nob_w PLC) ?_
  refine a_iconst (v := 0) q151_39 (by decide) ?_
  refine a_callSW (as := [_, _]) q151_40 rfl rfl ⟨Nat.ble_eq_true_of_le (by omega), Nat.ble_eq_true_of_le (by omega)⟩ rfl ?_
  refine c_L_filled_w ?_
  refine ck_r ?_
  refine a_ldcf (v := 3378231840) q151_43 (by decide) ?_
  refine a_fcmp q151_45 ?_
  refine AW.ti (show Op.cmpValue (FP.fcmp 3378231840 3378231840) .l = 0 by decide) ?_
  refine a_if_eq (tgt := 51) q151_46 (by decide) (fun zc46 => ?_) (fun zc46 => absurd (by decide) zc46)
  refine AW.hp (nob_d PLC) ?_
  refine AW.drop (by rw [h0]; rfl) ?_
  refine a_iconst (v := 0) q151_51 (by decide) ?_
  refine a_istore_n (i := 3) (lv' := [(0, _), (1, _), (2, _), (3, _)]) q151_52 rfl rfl rfl ?_
  refine AW.wide (bc' := 67 * (16) + 86522 * (((16) + 3) / 5) + 300) (bs' := 402 * (16) + 648792 * (((16) + 3) / 5) + 1800) (by omega) (by omega) ?_
  exact l_law 16 rfl hX hr hq
