/-! numbers with a point: never the undefined one -/
def fGood (d : FP.Core.Datum) : Prop := match d with
  | .nan => False
  | .inf _ => True
  | .fin _ c q => c < 9007199254740992 ∧ q ≤ 971
theorem f64_t : FP.Core.Fmt.tails FP.Core.b64 = 4503599627370496 := by decide
theorem f64_e : FP.Core.Fmt.exps FP.Core.b64 = 2048 := by decide
theorem f64_q : FP.Core.Fmt.qmin FP.Core.b64 = -1074 := by decide
theorem f64_x : FP.Core.Fmt.qmax FP.Core.b64 = 971 := by decide
theorem f64_p : 2 ^ FP.Core.b64.p = 9007199254740992 := by decide
theorem f_enc {d : FP.Core.Datum} (h : fGood d) : FP.Core.encode FP.Core.b64 d % 9223372036854775808 ≤ 9218868437227405312 ∧ FP.Core.encode FP.Core.b64 d < 18446744073709551616 := by
  cases d with
  | nan => exact absurd h (fun z => z)
  | inf s =>
    unfold FP.Core.encode FP.Core.assemble
    rw [f64_t, f64_e]
    cases s <;> decide
  | fin s c q =>
    obtain ⟨h1, h2⟩ : c < 9007199254740992 ∧ q ≤ 971 := h
    have hs : s.toNat ≤ 1 := by cases s <;> decide
    generalize hs' : s.toNat = b at hs
    unfold FP.Core.encode FP.Core.assemble
    dsimp only
    rw [f64_t, f64_e, f64_q, hs']
    by_cases hc : c < 4503599627370496
    · rw [if_pos hc]; omega
    · rw [if_neg hc]
      have hq : (q - -1074).toNat ≤ 2045 := by omega
      generalize (q - -1074).toNat = e at hq
      omega
theorem f_dec {n : Nat} (h : n % 9223372036854775808 ≤ 9218868437227405312) : ¬ FP.Core.decode FP.Core.b64 n = .nan := by
  unfold FP.Core.decode FP.Core.fieldE FP.Core.fieldT
  rw [f64_t, f64_e]
  by_cases h1 : n / 4503599627370496 % 2048 = 2048 - 1
  · rw [if_pos h1]
    have h2 : n % 4503599627370496 = 0 := by omega
    rw [if_pos h2]
    intro z; cases z
  · rw [if_neg h1]
    by_cases h3 : n / 4503599627370496 % 2048 = 0
    · rw [if_pos h3]; intro z; cases z
    · rw [if_neg h3]; intro z; cases z
theorem f_round (s : Bool) (a b : Nat) (e : Int) : fGood (FP.Core.roundRatio FP.Core.b64 s a b e) := by
  unfold FP.Core.roundRatio
  by_cases h : a = 0
  · rw [if_pos h, f64_q]; exact ⟨by decide, by decide⟩
  · rw [if_neg h]
    unfold FP.Core.roundAt
    generalize FP.Core.nearest _ _ = c
    generalize FP.Core.quantum _ _ _ _ = q
    unfold FP.Core.settle FP.Core.bound
    rw [f64_p, f64_x, f64_t]
    by_cases h1 : c < 9007199254740992
    · rw [if_pos h1]
      by_cases h2 : q ≤ 971
      · rw [if_pos h2]; exact ⟨h1, h2⟩
      · rw [if_neg h2]; exact trivial
    · rw [if_neg h1]
      by_cases h2 : q + 1 ≤ 971
      · rw [if_pos h2]; exact ⟨by decide, h2⟩
      · rw [if_neg h2]; exact trivial
theorem f_of {n : Nat} (h : n < 18446744073709551616) : (UInt64.ofNat n).toNat = n := by
  rw [UInt64.toNat_ofNat']; exact Nat.mod_eq_of_lt h
theorem f_l2d (z : Int64) : ¬ FP.Core.decode FP.Core.b64 (FP.Core.l2d z).toNat = .nan := by
  unfold FP.Core.l2d FP.Core.fromInt FP.Core.round FP.Core.ofInt
  obtain ⟨h1, h2⟩ := f_enc (f_round (decide (z.toInt < 0)) z.toInt.natAbs 1 0)
  show ¬ FP.Core.decode FP.Core.b64 (UInt64.ofNat (FP.Core.encode FP.Core.b64 (FP.Core.roundRatio FP.Core.b64 (decide (z.toInt < 0)) z.toInt.natAbs 1 0))).toNat = .nan
  rw [f_of h2]
  exact f_dec h1
theorem f_quo {x y : FP.Core.Datum} (hx : ¬ x = .nan) (hy : ∃ t d r, y = .fin t d r ∧ ¬ d = 0) : fGood (FP.Core.quotient FP.Core.b64 x y) := by
  obtain ⟨t, d, r, rfl, hd⟩ := hy
  cases x with
  | nan => exact absurd rfl hx
  | inf s => exact trivial
  | fin s c q =>
    show fGood (if d = 0 then (if c = 0 then .nan else .inf (s != t)) else FP.Core.roundRatio FP.Core.b64 (s != t) c d (q - r))
    rw [if_neg hd]
    exact f_round _ _ _ _
def f_nz (N : Nat) : Bool := match FP.Core.decode FP.Core.b64 (FP.Core.i2d (nI N)).toNat with
  | .fin _ d _ => decide (¬ d = 0)
  | _ => false
theorem f_nz_t : ∀ N, N < 41 → N = 0 ∨ f_nz N = true := by decide +kernel
theorem f_i2d {N : Nat} (h : N < 41) (h0 : ¬ N = 0) : ∃ t d r, FP.Core.decode FP.Core.b64 (FP.Core.i2d (nI N)).toNat = .fin t d r ∧ ¬ d = 0 := by
  have := (f_nz_t N h).resolve_left h0
  unfold f_nz at this
  generalize FP.Core.decode FP.Core.b64 (FP.Core.i2d (nI N)).toNat = D at this ⊢
  cases D with
  | nan => cases this
  | inf s => cases this
  | fin t d r => exact ⟨t, d, r, rfl, of_decide_eq_true this⟩
theorem vf_of {n : Nat} (h1 : n % 9223372036854775808 ≤ 9218868437227405312) (h2 : n < 18446744073709551616) : vf_n64 (UInt64.ofNat n) := by
  unfold vf_n64
  rw [UInt64.le_iff_toNat_le, UInt64.toNat_and, f_of h2]
  show n &&& (2 ^ 63 - 1) ≤ 9218868437227405312
  rw [Nat.and_two_pow_sub_one_eq_mod]
  exact h1
theorem mean_ok (z : Int64) {N : Nat} (h : N < 41) (h0 : ¬ N = 0) : vf_n64 (FP.ddiv (FP.l2d z) (FP.i2d (nI N))) := by
  obtain ⟨h1, h2⟩ := f_enc (f_quo (f_l2d z) (f_i2d h h0))
  exact vf_of h1 h2
def fillB (n N : Nat) : Bool := decide (FP.fdiv (FP.i2f (nI N)) (FP.i2f (nI n)) &&& 0x7fffffff ≤ 0x7f800000) && (decide (FP.f2d (FP.fdiv (FP.i2f (nI N)) (FP.i2f (nI n))) &&& 0x7fffffffffffffff ≤ 0x7ff0000000000000) &&
  decide (Op.cmpValue (FP.dcmp (FP.f2d (FP.fdiv (FP.i2f (nI N)) (FP.i2f (nI n)))) (FP.f2d (FP.fdiv (FP.i2f (nI N)) (FP.i2f (nI n))))) .l = 0))
theorem fill_t : ∀ n, n < 41 → n = 0 ∨ ∀ N, N < 41 → fillB n N = true := by decide +kernel
theorem fill_ok {n N : Nat} (h : n < 41) (h0 : ¬ n = 0) (hN : N < 41) : vf_n32 (FP.fdiv (FP.i2f (nI N)) (FP.i2f (nI n))) ∧ vf_n64 (FP.f2d (FP.fdiv (FP.i2f (nI N)) (FP.i2f (nI n)))) ∧ Op.cmpValue (FP.dcmp (FP.f2d (FP.fdiv (FP.i2f (nI N)) (FP.i2f (nI n)))) (FP.f2d (FP.fdiv (FP.i2f (nI N)) (FP.i2f (nI n))))) .l = 0 := by
  have := ((fill_t n h).resolve_left h0) N hN
  unfold fillB at this
  unfold vf_n32 vf_n64
  rw [Bool.and_eq_true, Bool.and_eq_true] at this
  exact ⟨of_decide_eq_true this.1, of_decide_eq_true this.2.1, of_decide_eq_true this.2.2⟩
theorem cnt_e {n : Nat} {I : Nat → Int32} {A : Nat → Nat → Int32} {L : Nat → Nat → Int64} (hT : Tbl n I A L) {j : Nat} (hj : j < 6) : ∃ N, N < 41 ∧ f_countIn A (nI j) = nI N ∧ stCnt (mv A j) n = nI N ∧ f_sumIn L (nI j) = stSum (mv A j) n := by
  obtain ⟨N, U, h1, -, h3, -⟩ := st_nu (mv A j) n
  have h40 := hT.1
  have e := mkd_e hT hj
  refine ⟨N, by omega, ?_, h3, ?_⟩
  · unfold f_countIn; rw [if_pos (nI6 hj).1, (nI6 hj).2, ← e.2.2.1, h3]
  · unfold f_sumIn; rw [if_pos (nI6 hj).1, (nI6 hj).2, ← e.2.2.2]
theorem st_meanOf {X : XS} : LStep X Rel 590 := by
  intro Q I A L O ii bC bS hX hi hr zc
  obtain ⟨n, hT, hW, hR, hC, hM⟩ := id hr
  have hB : ∀ j, j < 6 → X.2 (ii + 1) = nI j → ¬ stCnt (mv A j) n = 0 → vf_n64 (FP.ddiv (FP.l2d (stSum (mv A j) n)) (FP.i2d (stCnt (mv A j) n))) := by
    intro j hj e h0
    obtain ⟨N, hN, e1, e2, e3⟩ := cnt_e hT hj
    rw [e2] at h0 ⊢
    exact mean_ok _ hN (fun z => h0 (by rw [z]; rfl))
  refine opA_meanOf hX hi (fun hc h0 => ?_) (fun hc => ?_) (fun hc h0 => ?_) (fun hc h0 => ?_)
  · obtain ⟨j, hj, e⟩ := col_n hc
    obtain ⟨N, hN, e1, e2, e3⟩ := cnt_e hT hj
    rw [e, e1] at h0 ⊢
    exact mean_ok _ hN (fun z => h0 (by rw [z]; rfl))
  · exact opB_meanOf hX hi hT.2.2.1 hT.1 hB (fun _ => ⟨rfl, zc _ _ _ _ (rel_26 hr _)⟩) (fun j hj e => absurd (by rw [e]; exact isCol_n hj) hc) (fun j hj e => absurd (by rw [e]; exact isCol_n hj) hc)
  · refine opB_meanOf hX hi hT.2.2.1 hT.1 hB (fun h => absurd hc h) (fun _ _ _ _ => ⟨rfl, zc _ _ _ _ (rel_26 hr _)⟩) (fun j hj e h => ?_)
    obtain ⟨N, hN, e1, e2, e3⟩ := cnt_e hT hj
    rw [e, e1, ← e2] at h0
    exact absurd h0 h
  · refine opB_meanOf hX hi hT.2.2.1 hT.1 hB (fun h => absurd hc h) (fun j hj e h => ?_) (fun j hj e h => ⟨rfl, ?_, zc _ _ _ _ (rel_26 hr _)⟩)
    · obtain ⟨N, hN, e1, e2, e3⟩ := cnt_e hT hj
      rw [e, e1, ← e2] at h0
      exact absurd h h0
    · obtain ⟨N, hN, e1, e2, e3⟩ := cnt_e hT hj
      show FP.ddiv (FP.l2d (f_sumIn L (X.2 (ii + 1)))) (FP.i2d (f_countIn A (X.2 (ii + 1)))) = _
      rw [e, e1, e2, e3]
theorem st_filled {X : XS} : LStep X Rel 667 := by
  intro Q I A L O ii bC bS hX hi hr zc
  obtain ⟨n, hT, hW, hR, hC, hM⟩ := id hr
  have h40 := hT.1
  have i2 := hT.2.1
  have n0 : I 2 = 0 ↔ n = 0 := by rw [i2]; exact nI_eq (b := 0) (by omega) (by omega)
  have hA : ∀ c, isCol c → ¬ n = 0 → vf_n32 (FP.fdiv (FP.i2f (f_countIn A c)) (FP.i2f (nI n))) ∧ vf_n64 (FP.f2d (FP.fdiv (FP.i2f (f_countIn A c)) (FP.i2f (nI n)))) := by
    intro c hc h0
    obtain ⟨j, hj, e⟩ := col_n hc
    obtain ⟨N, hN, e1, -⟩ := cnt_e hT hj
    rw [e, e1]
    have := fill_ok (n := n) (N := N) (by omega) h0 hN
    exact ⟨this.1, this.2.1⟩
  have hB : ∀ j, j < 6 → ¬ n = 0 → vf_n32 (FP.fdiv (FP.i2f (stCnt (mv A j) n)) (FP.i2f (nI n))) ∧ vf_n64 (FP.f2d (FP.fdiv (FP.i2f (stCnt (mv A j) n)) (FP.i2f (nI n)))) ∧ Op.cmpValue (FP.dcmp (FP.f2d (FP.fdiv (FP.i2f (stCnt (mv A j) n)) (FP.i2f (nI n)))) (FP.f2d (FP.fdiv (FP.i2f (stCnt (mv A j) n)) (FP.i2f (nI n))))) .l = 0 := by
    intro j hj h0
    obtain ⟨N, hN, -, e2, -⟩ := cnt_e hT hj
    rw [e2]
    exact fill_ok (by omega) h0 hN
  refine opA_filled hX hi (fun hc h0 => by rw [i2]; exact (hA _ hc (fun z => h0 (n0.mpr z))).1) (fun hc h0 => by rw [i2]; exact (hA _ hc (fun z => h0 (n0.mpr z))).2) (fun hc => ?_) (fun hc h0 => ?_) (fun hc h0 => ?_)
  · exact opB_filled hX hi hT.2.2.1 hT.1 (fun j hj _ h => (hB j hj h).1) (fun j hj _ h => (hB j hj h).2) (fun _ => ⟨rfl, zc _ _ _ _ (rel_26 hr _)⟩) (fun j hj e => absurd (by rw [e]; exact isCol_n hj) hc) (fun j hj e => absurd (by rw [e]; exact isCol_n hj) hc)
  · exact opB_filled hX hi hT.2.2.1 hT.1 (fun j hj _ h => (hB j hj h).1) (fun j hj _ h => (hB j hj h).2) (fun h => absurd hc h) (fun _ _ _ _ => ⟨rfl, zc _ _ _ _ (rel_26 hr _)⟩) (fun j hj e h => absurd (n0.mp h0) h)
  · refine opB_filled hX hi hT.2.2.1 hT.1 (fun j hj _ h => (hB j hj h).1) (fun j hj _ h => (hB j hj h).2) (fun h => absurd hc h) (fun j hj e h => absurd (n0.mpr h) h0) (fun j hj e h => ⟨rfl, ?_, zc _ _ _ _ (rel_26 hr _)⟩)
    obtain ⟨N, hN, e1, e2, e3⟩ := cnt_e hT hj
    show FP.f2d (FP.fdiv (FP.i2f (f_countIn A (X.2 (ii + 1)))) (FP.i2f (I 2))) = _
    rw [e, e1, e2, i2]
