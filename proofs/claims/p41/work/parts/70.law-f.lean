/-! the law's isTable -/
def fGood (d : FP.Core.Datum) : Prop := match d with
  | .nan => False
  | .inf _ => True
  | .fin _ c q => c < 9007199254740992 ∧ q ≤ 971
theorem f64_t : FP.Core.Fmt.tails FP.Core.b64 = 4503599627370496 := by decide
theorem f64_e : FP.Core.Fmt.exps FP.Core.b64 = 2048 := by decide
theorem f64_q : FP.Core.Fmt.qmin FP.Core.b64 = -1074 := by decide
theorem f64_x : FP.Core.Fmt.qmax FP.Core.b64 = 971 := by decide
theorem f64_p : 2 ^ FP.Core.b64.p = 9007199254740992 := by decide
theorem f_enc {d : FP.Core.Datum} (h : fGood d) : FP.Core.encode FP.Core.b64 d % 9223372036854775808 ≤ 9218868437227405312 ∧ FP.Core.encode FP.Core.b64 d < 18446744073709551616 := by
  cases d with
  | nan => exact absurd h (fun z => z)
  | inf s =>
    unfold FP.Core.encode FP.Core.assemble
    rw [f64_t, f64_e]
    cases s <;> decide
  | fin s c q =>
    obtain ⟨h1, h2⟩ : c < 9007199254740992 ∧ q ≤ 971 := h
    have hs : s.toNat ≤ 1 := by cases s <;> decide
    generalize hs' : s.toNat = b at hs
    unfold FP.Core.encode FP.Core.assemble
    dsimp only
    rw [f64_t, f64_e, f64_q, hs']
    by_cases hc : c < 4503599627370496
    · rw [if_pos hc]; omega
    · rw [if_neg hc]
      have hq : (q - -1074).toNat ≤ 2045 := by omega
      generalize (q - -1074).toNat = e at hq
      omega
theorem f_dec {n : Nat} (h : n % 9223372036854775808 ≤ 9218868437227405312) : ¬ FP.Core.decode FP.Core.b64 n = .nan := by
  unfold FP.Core.decode FP.Core.fieldE FP.Core.fieldT
  rw [f64_t, f64_e]
  by_cases h1 : n / 4503599627370496 % 2048 = 2048 - 1
  · rw [if_pos h1]
    have h2 : n % 4503599627370496 = 0 := by omega
    rw [if_pos h2]
    intro z; cases z
  · rw [if_neg h1]
    by_cases h3 : n / 4503599627370496 % 2048 = 0
    · rw [if_pos h3]; intro z; cases z
    · rw [if_neg h3]; intro z; cases z
theorem f_round (s : Bool) (a b : Nat) (e : Int) : fGood (FP.Core.roundRatio FP.Core.b64 s a b e) := by
  unfold FP.Core.roundRatio
  by_cases h : a = 0
  · rw [if_pos h, f64_q]; exact ⟨by decide, by decide⟩
  · rw [if_neg h]
    unfold FP.Core.roundAt
    generalize FP.Core.nearest _ _ = c
    generalize FP.Core.quantum _ _ _ _ = q
    unfold FP.Core.settle FP.Core.bound
    rw [f64_p, f64_x, f64_t]
    by_cases h1 : c < 9007199254740992
    · rw [if_pos h1]
      by_cases h2 : q ≤ 971
      · rw [if_pos h2]; exact ⟨h1, h2⟩
      · rw [if_neg h2]; exact trivial
    · rw [if_neg h1]
      by_cases h2 : q + 1 ≤ 971
      · rw [if_pos h2]; exact ⟨by decide, h2⟩
      · rw [if_neg h2]; exact trivial
theorem f_of {n : Nat} (h : n < 18446744073709551616) : (UInt64.ofNat n).toNat = n := by
  rw [UInt64.toNat_ofNat']; exact Nat.mod_eq_of_lt h
theorem f_l2d (z : Int64) : ¬ FP.Core.decode FP.Core.b64 (FP.Core.l2d z).toNat = .nan := by
  unfold FP.Core.l2d FP.Core.fromInt FP.Core.round FP.Core.ofInt
  obtain ⟨h1, h2⟩ := f_enc (f_round (decide (z.toInt < 0)) z.toInt.natAbs 1 0)
  show ¬ FP.Core.decode FP.Core.b64 (UInt64.ofNat (FP.Core.encode FP.Core.b64 (FP.Core.roundRatio FP.Core.b64 (decide (z.toInt < 0)) z.toInt.natAbs 1 0))).toNat = .nan
  rw [f_of h2]
  exact f_dec h1
theorem f_quo {x y : FP.Core.Datum} (hx : ¬ x = .nan) (hy : ∃ t d r, y = .fin t d r ∧ ¬ d = 0) : fGood (FP.Core.quotient FP.Core.b64 x y) := by
  obtain ⟨t, d, r, rfl, hd⟩ := hy
  cases x with
  | nan => exact absurd rfl hx
  | inf s => exact trivial
  | fin s c q =>
    show fGood (if d = 0 then (if c = 0 then .nan else .inf (s != t)) else FP.Core.roundRatio FP.Core.b64 (s != t) c d (q - r))
    rw [if_neg hd]
    exact f_round _ _ _ _
def f_nz (N : Nat) : Bool := match FP.Core.decode FP.Core.b64 (FP.Core.i2d (nI N)).toNat with
  | .fin _ d _ => decide (¬ d = 0)
  | _ => false
theorem f_nz_t : ∀ N, N < 41 → N = 0 ∨ f_nz N = true := by decide +kernel
theorem f_i2d {N : Nat} (h : N < 41) (h0 : ¬ N = 0) : ∃ t d r, FP.Core.decode FP.Core.b64 (FP.Core.i2d (nI N)).toNat = .fin t d r ∧ ¬ d = 0 := by
  have := (f_nz_t N h).resolve_left h0
  unfold f_nz at this
  generalize FP.Core.decode FP.Core.b64 (FP.Core.i2d (nI N)).toNat = D at this ⊢
  cases D with
  | nan => cases this
  | inf s => cases this
  | fin t d r => exact ⟨t, d, r, rfl, of_decide_eq_true this⟩
theorem vf_of {n : Nat} (h1 : n % 9223372036854775808 ≤ 9218868437227405312) (h2 : n < 18446744073709551616) : vf_n64 (UInt64.ofNat n) := by
  unfold vf_n64
  rw [UInt64.le_iff_toNat_le, UInt64.toNat_and, f_of h2]
  show n &&& (2 ^ 63 - 1) ≤ 9218868437227405312
  rw [Nat.and_two_pow_sub_one_eq_mod]
  exact h1
theorem mean_ok (z : Int64) {N : Nat} (h : N < 41) (h0 : ¬ N = 0) : vf_n64 (FP.ddiv (FP.l2d z) (FP.i2d (nI N))) := by
  obtain ⟨h1, h2⟩ := f_enc (f_quo (f_l2d z) (f_i2d h h0))
  exact vf_of h1 h2
def fillB (n N : Nat) : Bool := decide (FP.fdiv (FP.i2f (nI N)) (FP.i2f (nI n)) &&& 0x7fffffff ≤ 0x7f800000) &&
  decide (Op.cmpValue (FP.fcmp (FP.fdiv (FP.i2f (nI N)) (FP.i2f (nI n))) (FP.fdiv (FP.i2f (nI N)) (FP.i2f (nI n)))) .l = 0)
theorem fill_t : ∀ n, n < 41 → n = 0 ∨ ∀ N, N < 41 → fillB n N = true := by decide +kernel
theorem fill_ok {n N : Nat} (h : n < 41) (h0 : ¬ n = 0) (hN : N < 41) : vf_n32 (FP.fdiv (FP.i2f (nI N)) (FP.i2f (nI n))) ∧ Op.cmpValue (FP.fcmp (FP.fdiv (FP.i2f (nI N)) (FP.i2f (nI n))) (FP.fdiv (FP.i2f (nI N)) (FP.i2f (nI n)))) .l = 0 := by
  have := ((fill_t n h).resolve_left h0) N hN
  unfold fillB at this
  unfold vf_n32
  rw [Bool.and_eq_true] at this
  exact ⟨of_decide_eq_true this.1, of_decide_eq_true this.2⟩
theorem mean_cmp (z : Int64) {N : Nat} (h : N < 41) (h0 : ¬ N = 0) : Op.cmpValue (FP.dcmp (FP.ddiv (FP.l2d z) (FP.i2d (nI N))) (FP.ddiv (FP.l2d z) (FP.i2d (nI N)))) .l = 0 := by
  obtain ⟨h1, h2⟩ := f_enc (f_quo (f_l2d z) (f_i2d h h0))
  have e : FP.dcmp (FP.ddiv (FP.l2d z) (FP.i2d (nI N))) (FP.ddiv (FP.l2d z) (FP.i2d (nI N))) = some .eq := by
    refine FP.Core.dcmp_self ?_
    show ¬ FP.Core.decode FP.Core.b64 (UInt64.ofNat (FP.Core.encode FP.Core.b64 (FP.Core.quotient FP.Core.b64 (FP.Core.decode FP.Core.b64 (FP.Core.l2d z).toNat) (FP.Core.decode FP.Core.b64 (FP.Core.i2d (nI N)).toNat)))).toNat = .nan
    rw [f_of h2]
    exact f_dec h1
  rw [e]; rfl
theorem AW.cutL {X : XS} {mi pc : Nat} {lv : List (Nat × Value)} {st : List Value} {h : AH} {bc bs : Nat} {Q : AO → AH → Prop} (tgt : Nat) (v : Int64) (b : AW X mi tgt lv (.long v :: st) h bc bs Q → AW X mi pc lv st h bc bs Q) (k : AW X mi tgt lv (.long v :: st) h bc bs Q) : AW X mi pc lv st h bc bs Q := b k
theorem cutvL {X : XS} {mi pc : Nat} {lv : List (Nat × Value)} {st : List Value} {h : AH} {bc bs : Nat} {Q : AO → AH → Prop} {v w : Int64} (k : AW X mi pc lv (.long v :: st) h bc bs Q) (e : v = w) : AW X mi pc lv (.long w :: st) h bc bs Q := e ▸ k
def stS (f : Nat → Int32) (r : Nat) : Int64 := if f r = -10000 then 0 else (f r).toInt64
theorem stSum_s (f : Nat → Int32) (r : Nat) : stSum f r + stS f r = stSum f (r + 1) := by
  unfold stS
  rw [stSum]
  by_cases h : f r = -10000
  · rw [if_pos h, if_pos h]; exact Int64.add_zero _
  · rw [if_neg h, if_neg h]
theorem cnt_e {n : Nat} {I : Nat → Int32} {A : Nat → Nat → Int32} {L : Nat → Nat → Int64} (hT : Tbl n I A L) {c : Nat} (hc : c < 6) : ∃ N, N < 41 ∧ stCnt (nv A c) n = nI N ∧ f_countIn A (nI c) = nI N ∧ f_sumIn L (nI c) = stSum (nv A c) n ∧ f_kindAt A (nI c) = nkd A n c ∧ f_differentIn A (nI c) = stDif (nv A c) n := by
  obtain ⟨N, U, h1, -, h3, -⟩ := st_nu2 (nv A c) n
  have h40 := hT.1
  have e := nkd_e hT hc
  have cl : (nI c).toNatClampNeg = c := nI_cl (n := 6) hc (by decide)
  refine ⟨N, by omega, h3, ?_, ?_, ?_, ?_⟩
  · unfold f_countIn; rw [if_pos (isCol_n hc), cl, ← e.2.2.1, h3]
  · unfold f_sumIn; rw [if_pos (isCol_n hc), cl, ← e.2.2.2]
  · unfold f_kindAt; rw [if_pos (isCol_n hc), cl, ← e.1]
  · unfold f_differentIn; rw [if_pos (isCol_n hc), cl, ← e.2.1]
theorem neN {x y : Int32} (h : x = y) : ¬ ¬ x = y := fun z => z h
theorem l_tsum (m9 : Nat) : ∀ {X : XS} {I : Nat → Int32} {A : Nat → Nat → Int32} {L : Nat → Nat → Int64} {O : AH} {Q : AO → AH → Prop} {n bc bs : Nat} {c r : Nat} (hT : Tbl n I A L) (hc : c < 6) (hm : r + m9 = n) (kk : AW X 149 55 [(0, .ref 1), (1, .ref 0), (2, .int (nI c)), (3, .long (stSum (nv A c) n))] [] (hp I A L O) bc bs Q), AW X 149 13 [(0, .ref 1), (1, .ref 0), (2, .int (nI c)), (3, .long (stSum (nv A c) r)), (5, .int (nI r))] [] (hp I A L O) (bc) (bs) Q := by
  induction m9 with
  | zero =>
    intro X I A L O Q n bc bs c r hT hc hm kk
    refine a_iload q149_13 rfl ?_
    refine a_aload_n (i := 1) q149_15 rfl rfl ?_
    refine a_iconst (v := 0) q149_16 (by decide) ?_
    refine a_iald' q149_17 rfl (j := 0) rfl (by decide) (by decide) ?_
    refine AW.ti hT.2.2.1 ?_
    refine a_icmp_ge (tgt := 55) q149_18 (by decide) (fun zc18 => ?_) (fun zc18 => absurd (nI_le (show n ≤ r by omega) (by have := hT.1; omega)) zc18)
    refine AW.pop_less (x := (5, _)) (lv' := [(0, _), (1, _), (2, _), (3, _)]) ?_
    have e : r = n := by omega
    subst e; exact kk
  | succ m9 ih =>
    intro X I A L O Q n bc bs c r hT hc hm kk
    refine a_iload q149_13 rfl ?_
    refine a_aload_n (i := 1) q149_15 rfl rfl ?_
    refine a_iconst (v := 0) q149_16 (by decide) ?_
    refine a_iald' q149_17 rfl (j := 0) rfl (by decide) (by decide) ?_
    refine AW.ti hT.2.2.1 ?_
    refine a_icmp_ge (tgt := 55) q149_18 (by decide) (fun zc18 => absurd zc18 (nI_ge (show r < n by omega) (by have := hT.1; omega))) (fun zc18 => ?_)
    refine a_lload_n (i := 3) q149_21 rfl rfl ?_
    refine AW.cutL 47 (stS (nv A c) r) (fun zk47 => ?_) ?_
    · skip
      refine a_aload_n (i := 1) q149_22 rfl rfl ?_
      refine a_iload q149_23 rfl ?_
      refine a_iload_n (i := 2) q149_25 rfl rfl ?_
      refine a_cs3 q149_26 rfl ⟨rfl, rfl⟩ rfl ?_
      refine c_L_value (show r < 40 by have := hT.1; omega) hc ?_
      refine ck_r ?_
      refine a_sipush (v := (-10000)) q149_29 (by decide) ?_
      refine a_icmp_ne (tgt := 39) q149_32 (by decide) (fun zc32 => ?_) (fun zc32 => ?_)
      · skip
        refine a_aload_n (i := 1) q149_39 rfl rfl ?_
        refine a_iload q149_40 rfl ?_
        refine a_iload_n (i := 2) q149_42 rfl rfl ?_
        refine a_cs3 q149_43 rfl ⟨rfl, rfl⟩ rfl ?_
        refine c_L_value (show r < 40 by have := hT.1; omega) hc ?_
        refine ck_r ?_
        refine a_i2l q149_46 ?_
        exact cutvL zk47 (if_neg zc32)
      · skip
        refine a_lconst (v := 0) q149_35 (by decide) ?_
        refine a_goto (tgt := 47) q149_36 (by decide) ?_
        exact cutvL zk47 (if_pos zc32)
    refine a_ladd q149_47 ?_
    refine AW.tl (stSum_s _ _) ?_
    refine a_lstore_n (i := 3) (lv' := [(0, _), (1, _), (2, _), (3, _), (5, _)]) q149_48 rfl rfl rfl ?_
    refine a_iinc (v := nI (r + 1)) (lv' := [(0, _), (1, _), (2, _), (3, _), (5, _)]) q149_49 rfl rfl (nI_1 (r)) rfl ?_
    refine a_goto (tgt := 13) q149_52 (by decide) ?_
    exact ih hT hc (show r + 1 + m9 = n by omega) kk

theorem l_tab (m9 : Nat) : ∀ {X : XS} {I : Nat → Int32} {A : Nat → Nat → Int32} {L : Nat → Nat → Int64} {O : AH} {Q : AO → AH → Prop} {n bc bs : Nat} {c : Nat} (hT : Tbl n I A L) (hm : c + m9 = 6) (hq : Q (.inl (some (.int 1))) (hp I A L O)), AW X 149 2 [(0, .ref 1), (1, .ref 0), (2, .int (nI c))] [] (hp I A L O) (7 * m9 + bc) (42 * m9 + bs) Q := by
  induction m9 with
  | zero =>
    intro X I A L O Q n bc bs c hT hm hq
    refine a_iload_n (i := 2) q149_2 rfl rfl ?_
    refine a_bipush (v := 6) q149_3 (by decide) ?_
    refine a_icmp_ge (tgt := 172) q149_5 (by decide) (fun zc5 => ?_) (fun zc5 => absurd (nI_le (show 6 ≤ c by omega) (by omega)) zc5)
    refine a_aload_n (i := 0) q149_172 rfl rfl ?_
    refine a_cv0 q149_173 rfl rfl ⟨rfl, rfl⟩ rfl ?_
    refine c_X9_rows ?_
    refine ck_r ?_
    refine AW.ti hT.2.1 ?_
    refine a_aload_n (i := 1) q149_176 rfl rfl ?_
    refine a_iconst (v := 0) q149_177 (by decide) ?_
    refine a_iald' q149_178 rfl (j := 0) rfl (by decide) (by decide) ?_
    refine AW.ti hT.2.2.1 ?_
    refine a_icmp_ne (tgt := 186) q149_179 (by decide) (fun zc179 => absurd zc179 (neN rfl)) (fun zc179 => ?_)
    refine a_iconst (v := 1) q149_182 (by decide) ?_
    refine a_goto (tgt := 187) q149_183 (by decide) ?_
    refine a_ireturn q149_187 (nr_bool rfl (by decide)) ?_
    exact hq
  | succ m9 ih =>
    intro X I A L O Q n bc bs c hT hm hq
    have hc : c < 6 := by omega
    obtain ⟨N, hN, eN, eC, eS, eK, eD⟩ := cnt_e hT hc
    refine AW.wide (bc' := 7 * m9 + bc + 7) (bs' := 42 * m9 + bs + 42) (by omega) (by omega) ?_
    refine a_iload_n (i := 2) q149_2 rfl rfl ?_
    refine a_bipush (v := 6) q149_3 (by decide) ?_
    refine a_icmp_ge (tgt := 172) q149_5 (by decide) (fun zc5 => absurd zc5 (nI_ge (show c < 6 by omega) (by decide))) (fun zc5 => ?_)
    refine a_lconst (v := 0) q149_8 (by decide) ?_
    refine a_lstore_n (i := 3) (lv' := [(0, _), (1, _), (2, _), (3, _)]) q149_9 rfl rfl rfl ?_
    refine a_iconst (v := 0) q149_10 (by decide) ?_
    refine a_istore (i := 5) (lv' := [(0, _), (1, _), (2, _), (3, _), (5, _)]) q149_11 rfl rfl ?_
    refine l_tsum n (r := 0) hT hc (Nat.zero_add n) ?_
    refine a_aload_n (i := 1) q149_55 rfl rfl ?_
    refine a_iload_n (i := 2) q149_56 rfl rfl ?_
    refine a_cs2 q149_57 rfl ⟨rfl, rfl⟩ rfl ?_
    refine c_L_many hT.2.2.1 hT.1 hc (tv_ok hT c hc) ?_
    refine ck_r ?_
    refine a_istore (i := 5) (lv' := [(0, _), (1, _), (2, _), (3, _), (5, _)]) q149_60 rfl rfl ?_
    refine a_aload_n (i := 0) q149_62 rfl rfl ?_
    refine a_iload_n (i := 2) q149_63 rfl rfl ?_
    refine a_callSW (as := [_, _]) q149_64 rfl rfl ⟨rfl, rfl⟩ rfl ?_
    refine c_L_kindOf (fun _ => ?_) (fun z => absurd (isCol_n hc) z)
    refine ck_r ?_
    refine a_aload_n (i := 1) q149_67 rfl rfl ?_
    refine a_iload_n (i := 2) q149_68 rfl rfl ?_
    refine a_cs2 q149_69 rfl ⟨rfl, rfl⟩ rfl ?_
    refine c_L_kind hT.2.2.1 hT.1 hc (tv_ok hT c hc) ?_
    refine ck_r ?_
    refine a_icmp_ne (tgt := 128) q149_72 (by decide) (fun zc72 => absurd zc72 (neN eK)) (fun zc72 => ?_)
    refine a_aload_n (i := 0) q149_75 rfl rfl ?_
    refine a_iload_n (i := 2) q149_76 rfl rfl ?_
    refine a_callSW (as := [_, _]) q149_77 rfl rfl ⟨rfl, rfl⟩ rfl ?_
    refine c_L_different (fun _ => ?_) (fun z => absurd (isCol_n hc) z)
    refine ck_r ?_
    refine a_aload_n (i := 1) q149_80 rfl rfl ?_
    refine a_iload_n (i := 2) q149_81 rfl rfl ?_
    refine a_cs2 q149_82 rfl ⟨rfl, rfl⟩ rfl ?_
    refine c_L_different_ hT.2.2.1 hT.1 hc (tv_ok hT c hc) ?_
    refine ck_r ?_
    refine a_icmp_ne (tgt := 128) q149_85 (by decide) (fun zc85 => absurd zc85 (neN eD)) (fun zc85 => ?_)
    refine a_aload_n (i := 0) q149_88 rfl rfl ?_
    refine a_iload_n (i := 2) q149_89 rfl rfl ?_
    refine a_callSW (as := [_, _]) q149_90 rfl rfl ⟨rfl, rfl⟩ rfl ?_
    refine c_L_sumOf (fun _ => ?_) (fun z => absurd (isCol_n hc) z)
    refine ck_r ?_
    refine a_lload_n (i := 3) q149_93 rfl rfl ?_
    refine a_lcmp q149_94 ?_
    refine a_if_ne (tgt := 128) q149_95 (by decide) (fun zc95 => absurd zc95 (neN ((lg_cmp_eq _ _).mpr eS))) (fun zc95 => ?_)
    refine a_aload_n (i := 0) q149_98 rfl rfl ?_
    refine a_iload_n (i := 2) q149_99 rfl rfl ?_
    refine a_callSW (as := [_, _]) q149_100 rfl rfl ⟨rfl, rfl⟩ rfl ?_
    refine c_L_meanOf (fun _ z0 => by rw [eS, eC] at *; exact mean_ok _ hN (fun zz => z0 (by rw [zz]; rfl))) (fun z => absurd (isCol_n hc) z) (fun _ z0 => ?_) (fun _ z0 => ?_)
    · skip
      refine ck_r ?_
      have hN0 : stCnt (nv A c) n = 0 := by rw [eN, ← eC]; exact z0
      refine a_iload q149_103 rfl ?_
      refine a_if_ne (tgt := 114) q149_105 (by decide) (fun zc105 => absurd zc105 (neN hN0)) (fun zc105 => ?_)
      refine a_ldc2d (v := 13919350207260131328) q149_108 (by decide) ?_
      refine a_goto (tgt := 120) q149_111 (by decide) ?_
      refine a_dcmp q149_120 ?_
      refine a_if_ne (tgt := 128) q149_121 (by decide) (fun zc121 => absurd zc121 (neN (show Op.cmpValue (FP.dcmp _ _) .l = 0 by decide))) (fun zc121 => ?_)
      refine a_iconst (v := 1) q149_124 (by decide) ?_
      refine a_goto (tgt := 129) q149_125 (by decide) ?_
      refine a_istore (i := 6) (lv' := [(0, _), (1, _), (2, _), (3, _), (5, _), (6, _)]) q149_129 rfl rfl ?_
      refine a_iload q149_131 rfl ?_
      refine a_if_eq (tgt := 164) q149_133 (by decide) (fun zc133 => absurd zc133 (by decide)) (fun zc133 => ?_)
      refine a_aload_n (i := 0) q149_136 rfl rfl ?_
      refine a_iload_n (i := 2) q149_137 rfl rfl ?_
      refine a_callSW (as := [_, _]) q149_138 rfl rfl ⟨rfl, rfl⟩ rfl ?_
      refine c_L_filled (fun _ z0 => by rw [eC, hT.2.1]; exact (fill_ok (by have := hT.1; omega) (fun zz => z0 (by rw [hT.2.1, zz]; rfl)) hN).1) (fun z => absurd (isCol_n hc) z) (fun _ z0 => ?_) (fun _ z0 => ?_)
      · skip
        refine ck_r ?_
        have hn0 : nI n = 0 := by rw [← hT.2.1]; exact z0
        refine a_aload_n (i := 1) q149_141 rfl rfl ?_
        refine a_iconst (v := 0) q149_142 (by decide) ?_
        refine a_iald' q149_143 rfl (j := 0) rfl (by decide) (by decide) ?_
        refine AW.ti hT.2.2.1 ?_
        refine a_if_ne (tgt := 152) q149_144 (by decide) (fun zc144 => absurd zc144 (neN hn0)) (fun zc144 => ?_)
        refine a_ldcf (v := 3378231840) q149_147 (by decide) ?_
        refine a_goto (tgt := 160) q149_149 (by decide) ?_
        refine a_fcmp q149_160 ?_
        refine a_if_eq (tgt := 166) q149_161 (by decide) (fun zc161 => ?_) (fun zc161 => absurd (show Op.cmpValue (FP.fcmp _ _) .l = 0 by decide) zc161)
        refine a_iinc (v := nI (c + 1)) (lv' := [(0, _), (1, _), (2, _), (3, _), (5, _), (6, _)]) q149_166 rfl rfl (nI_1 (c)) rfl ?_
        refine a_goto (tgt := 2) q149_169 (by decide) ?_
        refine AW.pop_less (x := (6, _)) (lv' := [(0, _), (1, _), (2, _), (3, _), (5, _)]) ?_
        refine AW.pop_less (x := (5, _)) (lv' := [(0, _), (1, _), (2, _), (3, _)]) ?_
        refine AW.pop_less (x := (3, _)) (lv' := [(0, _), (1, _), (2, _)]) ?_
        refine AW.wide (bc' := 7 * m9 + bc) (bs' := 42 * m9 + bs) (Nat.le_of_eq rfl) (Nat.le_of_eq rfl) ?_
        exact ih hT (show c + 1 + m9 = 6 by omega) hq
      · skip
        refine ck_r ?_
        have hn0 : ¬ nI n = 0 := by rw [← hT.2.1]; exact z0
        have hn1 : ¬ n = 0 := fun zz => hn0 (by rw [zz]; rfl)
        refine a_aload_n (i := 1) q149_141 rfl rfl ?_
        refine a_iconst (v := 0) q149_142 (by decide) ?_
        refine a_iald' q149_143 rfl (j := 0) rfl (by decide) (by decide) ?_
        refine AW.ti hT.2.2.1 ?_
        refine a_if_ne (tgt := 152) q149_144 (by decide) (fun zc144 => ?_) (fun zc144 => absurd zc144 (hn0))
        refine a_iload q149_152 rfl ?_
        refine a_i2f q149_154 ?_
        refine a_aload_n (i := 1) q149_155 rfl rfl ?_
        refine a_iconst (v := 0) q149_156 (by decide) ?_
        refine a_iald' q149_157 rfl (j := 0) rfl (by decide) (by decide) ?_
        refine AW.ti hT.2.2.1 ?_
        refine a_i2f q149_158 ?_
        refine a_fdiv q149_159 (by rw [eN]; exact (fill_ok (by have := hT.1; omega) hn1 hN).1) ?_
        refine a_fcmp q149_160 ?_
        refine a_if_eq (tgt := 166) q149_161 (by decide) (fun zc161 => ?_) (fun zc161 => absurd (show Op.cmpValue (FP.fcmp _ _) .l = 0 by rw [eC, hT.2.1, eN]; exact (fill_ok (by have := hT.1; omega) hn1 hN).2) zc161)
        refine a_iinc (v := nI (c + 1)) (lv' := [(0, _), (1, _), (2, _), (3, _), (5, _), (6, _)]) q149_166 rfl rfl (nI_1 (c)) rfl ?_
        refine a_goto (tgt := 2) q149_169 (by decide) ?_
        refine AW.pop_less (x := (6, _)) (lv' := [(0, _), (1, _), (2, _), (3, _), (5, _)]) ?_
        refine AW.pop_less (x := (5, _)) (lv' := [(0, _), (1, _), (2, _), (3, _)]) ?_
        refine AW.pop_less (x := (3, _)) (lv' := [(0, _), (1, _), (2, _)]) ?_
        refine AW.wide (bc' := 7 * m9 + bc) (bs' := 42 * m9 + bs) (Nat.le_of_eq rfl) (Nat.le_of_eq rfl) ?_
        exact ih hT (show c + 1 + m9 = 6 by omega) hq
    · skip
      refine ck_r ?_
      have hN0 : ¬ stCnt (nv A c) n = 0 := by rw [eN, ← eC]; exact z0
      have hN1 : ¬ N = 0 := fun zz => hN0 (by rw [eN, zz]; rfl)
      refine a_iload q149_103 rfl ?_
      refine a_if_ne (tgt := 114) q149_105 (by decide) (fun zc105 => ?_) (fun zc105 => absurd zc105 (hN0))
      refine a_lload_n (i := 3) q149_114 rfl rfl ?_
      refine a_l2d q149_115 ?_
      refine a_iload q149_116 rfl ?_
      refine a_i2d q149_118 ?_
      refine a_ddiv q149_119 (by rw [eN]; exact mean_ok _ hN hN1) ?_
      refine a_dcmp q149_120 ?_
      refine a_if_ne (tgt := 128) q149_121 (by decide) (fun zc121 => absurd zc121 (neN (show Op.cmpValue (FP.dcmp _ _) .l = 0 by rw [eS, eC, eN]; exact mean_cmp _ hN hN1))) (fun zc121 => ?_)
      refine a_iconst (v := 1) q149_124 (by decide) ?_
      refine a_goto (tgt := 129) q149_125 (by decide) ?_
      refine a_istore (i := 6) (lv' := [(0, _), (1, _), (2, _), (3, _), (5, _), (6, _)]) q149_129 rfl rfl ?_
      refine a_iload q149_131 rfl ?_
      refine a_if_eq (tgt := 164) q149_133 (by decide) (fun zc133 => absurd zc133 (by decide)) (fun zc133 => ?_)
      refine a_aload_n (i := 0) q149_136 rfl rfl ?_
      refine a_iload_n (i := 2) q149_137 rfl rfl ?_
      refine a_callSW (as := [_, _]) q149_138 rfl rfl ⟨rfl, rfl⟩ rfl ?_
      refine c_L_filled (fun _ z0 => by rw [eC, hT.2.1]; exact (fill_ok (by have := hT.1; omega) (fun zz => z0 (by rw [hT.2.1, zz]; rfl)) hN).1) (fun z => absurd (isCol_n hc) z) (fun _ z0 => ?_) (fun _ z0 => ?_)
      · skip
        refine ck_r ?_
        have hn0 : nI n = 0 := by rw [← hT.2.1]; exact z0
        refine a_aload_n (i := 1) q149_141 rfl rfl ?_
        refine a_iconst (v := 0) q149_142 (by decide) ?_
        refine a_iald' q149_143 rfl (j := 0) rfl (by decide) (by decide) ?_
        refine AW.ti hT.2.2.1 ?_
        refine a_if_ne (tgt := 152) q149_144 (by decide) (fun zc144 => absurd zc144 (neN hn0)) (fun zc144 => ?_)
        refine a_ldcf (v := 3378231840) q149_147 (by decide) ?_
        refine a_goto (tgt := 160) q149_149 (by decide) ?_
        refine a_fcmp q149_160 ?_
        refine a_if_eq (tgt := 166) q149_161 (by decide) (fun zc161 => ?_) (fun zc161 => absurd (show Op.cmpValue (FP.fcmp _ _) .l = 0 by decide) zc161)
        refine a_iinc (v := nI (c + 1)) (lv' := [(0, _), (1, _), (2, _), (3, _), (5, _), (6, _)]) q149_166 rfl rfl (nI_1 (c)) rfl ?_
        refine a_goto (tgt := 2) q149_169 (by decide) ?_
        refine AW.pop_less (x := (6, _)) (lv' := [(0, _), (1, _), (2, _), (3, _), (5, _)]) ?_
        refine AW.pop_less (x := (5, _)) (lv' := [(0, _), (1, _), (2, _), (3, _)]) ?_
        refine AW.pop_less (x := (3, _)) (lv' := [(0, _), (1, _), (2, _)]) ?_
        refine AW.wide (bc' := 7 * m9 + bc) (bs' := 42 * m9 + bs) (Nat.le_of_eq rfl) (Nat.le_of_eq rfl) ?_
        exact ih hT (show c + 1 + m9 = 6 by omega) hq
      · skip
        refine ck_r ?_
        have hn0 : ¬ nI n = 0 := by rw [← hT.2.1]; exact z0
        have hn1 : ¬ n = 0 := fun zz => hn0 (by rw [zz]; rfl)
        refine a_aload_n (i := 1) q149_141 rfl rfl ?_
        refine a_iconst (v := 0) q149_142 (by decide) ?_
        refine a_iald' q149_143 rfl (j := 0) rfl (by decide) (by decide) ?_
        refine AW.ti hT.2.2.1 ?_
        refine a_if_ne (tgt := 152) q149_144 (by decide) (fun zc144 => ?_) (fun zc144 => absurd zc144 (hn0))
        refine a_iload q149_152 rfl ?_
        refine a_i2f q149_154 ?_
        refine a_aload_n (i := 1) q149_155 rfl rfl ?_
        refine a_iconst (v := 0) q149_156 (by decide) ?_
        refine a_iald' q149_157 rfl (j := 0) rfl (by decide) (by decide) ?_
        refine AW.ti hT.2.2.1 ?_
        refine a_i2f q149_158 ?_
        refine a_fdiv q149_159 (by rw [eN]; exact (fill_ok (by have := hT.1; omega) hn1 hN).1) ?_
        refine a_fcmp q149_160 ?_
        refine a_if_eq (tgt := 166) q149_161 (by decide) (fun zc161 => ?_) (fun zc161 => absurd (show Op.cmpValue (FP.fcmp _ _) .l = 0 by rw [eC, hT.2.1, eN]; exact (fill_ok (by have := hT.1; omega) hn1 hN).2) zc161)
        refine a_iinc (v := nI (c + 1)) (lv' := [(0, _), (1, _), (2, _), (3, _), (5, _), (6, _)]) q149_166 rfl rfl (nI_1 (c)) rfl ?_
        refine a_goto (tgt := 2) q149_169 (by decide) ?_
        refine AW.pop_less (x := (6, _)) (lv' := [(0, _), (1, _), (2, _), (3, _), (5, _)]) ?_
        refine AW.pop_less (x := (5, _)) (lv' := [(0, _), (1, _), (2, _), (3, _)]) ?_
        refine AW.pop_less (x := (3, _)) (lv' := [(0, _), (1, _), (2, _)]) ?_
        refine AW.wide (bc' := 7 * m9 + bc) (bs' := 42 * m9 + bs) (Nat.le_of_eq rfl) (Nat.le_of_eq rfl) ?_
        exact ih hT (show c + 1 + m9 = 6 by omega) hq

theorem c_L_isTable {X : XS} {I : Nat → Int32} {A : Nat → Nat → Int32} {L : Nat → Nat → Int64} {O : AH} {Q : AO → AH → Prop} {n : Nat} (hT : Tbl n I A L) (hq : Q (.inl (some (.int 1))) (hp I A L O)) : Call X 149 [.ref 1, .ref 0] (hp I A L O) Q := by
  refine call_of (by decide) rfl rfl ?_
  refine a_iconst (v := 0) q149_0 (by decide) ?_
  refine a_istore_n (i := 2) (lv' := [(0, _), (1, _), (2, _)]) q149_1 rfl rfl rfl ?_
  refine AW.wide (bc' := 7 * 6 + 0) (bs' := 42 * 6 + 0) (Nat.le_of_ble_eq_true rfl) (Nat.le_of_ble_eq_true rfl) ?_
  exact l_tab 6 (c := 0) hT rfl hq
