/-! what the law says of a chart is what the class says -/
section ALIKE
variable {n : Nat} {I : Nat → Int32} {A : Nat → Nat → Int32} {L : Nat → Nat → Int64} {K C : Nat → Int32} {m a s0 s1 s2 s3 : Nat}
theorem kp_fb (w : Int32) (hw : A 30 1 = w) : (∀ j, 1 ≤ j → j ≤ 9 → kp A K C j) ↔ m_fb w (VB A K) C = 0 := by
  have zl := lits
  constructor
  · intro h
    have h1 : ¬ (C 2 < 0 ∧ C 3 < 0) := h 1 (by decide) (by decide)
    have h2 : ¬ m_dead (VB A K) C := h 2 (by decide) (by decide)
    have h3 : ¬ (0 ≤ C 5 ∧ ¬ (m_of (VB A K) C 3 = 4 ∧ C 0 = 2)) := h 3 (by decide) (by decide)
    have h4 : ¬ m_b4 (VB A K) C := h 4 (by decide) (by decide)
    have h5 : ¬ m_b5 (VB A K) C := h 5 (by decide) (by decide)
    have h6 : ¬ (C 1 = 1 ∧ 0 ≤ C 3) := h 6 (by decide) (by decide)
    have h7 : ¬ (C 1 = 2 ∧ ¬ (m_of (VB A K) C 1 = 4 ∧ m_grp (VB A K) C)) := h 7 (by decide) (by decide)
    have h8 : ¬ m_off (VB A K) C := h 8 (by decide) (by decide)
    have h9 : wshM (A 30 1) (VB A K) C 6 := h 9 (by decide) (by decide)
    rw [hw] at h9
    unfold m_fb
    rw [if_neg (fun z => z.elim h1 h2), if_neg h3, if_neg (fun z => z.elim h4 h5), if_neg h6, if_neg h7, if_neg h8, if_pos h9]
  · intro h
    unfold m_fb at h
    by_cases c1 : (C 2 < 0 ∧ C 3 < 0) ∨ m_dead (VB A K) C
    · rw [if_pos c1] at h; split at h <;> exact absurd h (by decide)
    rw [if_neg c1] at h
    by_cases c3 : 0 ≤ C 5 ∧ ¬ (m_of (VB A K) C 3 = 4 ∧ C 0 = 2)
    · rw [if_pos c3] at h; exact absurd h (by decide)
    rw [if_neg c3] at h
    by_cases c4 : m_b4 (VB A K) C ∨ m_b5 (VB A K) C
    · rw [if_pos c4] at h; split at h <;> exact absurd h (by decide)
    rw [if_neg c4] at h
    by_cases c6 : C 1 = 1 ∧ 0 ≤ C 3
    · rw [if_pos c6] at h; exact absurd h (by decide)
    rw [if_neg c6] at h
    by_cases c7 : C 1 = 2 ∧ ¬ (m_of (VB A K) C 1 = 4 ∧ m_grp (VB A K) C)
    · rw [if_pos c7] at h; exact absurd h (by decide)
    rw [if_neg c7] at h
    by_cases c8 : m_off (VB A K) C
    · rw [if_pos c8] at h; exact absurd h (by decide)
    rw [if_neg c8] at h
    by_cases c9 : wshM w (VB A K) C 6
    · intro j j1 j9
      rcases (show j = 1 ∨ j = 2 ∨ j = 3 ∨ j = 4 ∨ j = 5 ∨ j = 6 ∨ j = 7 ∨ j = 8 ∨ j = 9 by omega) with rfl | rfl | rfl | rfl | rfl | rfl | rfl | rfl | rfl
      · exact fun z => c1 (Or.inl z)
      · exact fun z => c1 (Or.inr z)
      · exact c3
      · exact fun z => c4 (Or.inl z)
      · exact fun z => c4 (Or.inr z)
      · exact c6
      · exact c7
      · exact c8
      · show wshM (A 30 1) (VB A K) C 6
        rw [hw]; exact c9
    · rw [if_neg c9] at h; exact absurd h (by decide)
theorem law_fb (hT : Tbl n I A L) (hW : Wsh I A) (hK : KO A K) (hd : dgt m a s0 s1 s2 s3) (hf : digF C m a s0 s1 s2 s3) : (∀ j, 1 ≤ j → j ≤ 9 → kp A K C j) ↔ f_fb I A (cod m a s0 s1 s2 s3) = 0 := by
  rw [kp_fb (I 4) hW.2.2.1, fb_eq (vb_link hT hW hK) hd hf]
theorem addL_M (w : Nat → Int32) (s : Int32) : ∀ m k acc, addL w s m k acc = addM w s m k acc
  | 0, _, _ => rfl
  | m + 1, k, acc => by
    rw [addL, addM, addL_M w s m]
    congr 1
    rcases and1_01 (s >>> (nI k &&& 31)) with z | z
    · rw [z, if_neg (by decide), Int32.zero_mul]
    · rw [z, if_pos rfl, Int32.one_mul]
theorem or_add {x y v : Int32} {k : Nat} {p : Prop} [Decidable p] (h : ∃ b, b < 2 ^ k ∧ x = nI b ∧ y = nI b) (hv : v = nI (2 ^ k)) : ∃ b, b < 2 ^ (k + 1) ∧ x + bv p v = nI b ∧ y ||| bv p v = nI b := by
  obtain ⟨b, hb, rfl, rfl⟩ := h
  have e : 2 ^ (k + 1) = 2 ^ k + 2 ^ k := by rw [Nat.pow_succ]; omega
  by_cases hp : p
  · rw [bv_t hp, hv]
    refine ⟨2 ^ k * 1 + b, by omega, by rw [nI_add, Nat.mul_one, Nat.add_comm], ?_⟩
    rw [fa_or, Nat.or_comm, show 2 ^ k ||| b = 2 ^ k * 1 ||| b by rw [Nat.mul_one], Nat.two_pow_add_eq_or_of_lt hb]
  · rw [bv_f hp]
    refine ⟨b, by omega, Int32.add_zero _, ?_⟩
    rw [show (0 : Int32) = nI 0 from rfl, fa_or, Nat.or_zero]
theorem soft_eq (hn : A 30 0 = nI n) : softL A K C = m_soft (nI n) (VB A K) C := by
  unfold softL m_soft
  rw [hn]
  have e5 : bv (2 < m_nch C) 32 = bv (3 ≤ m_nch C) 32 := bv_c (by rw [i_lt, i_le]; have : (2 : Int32).toInt = 2 := rfl; have : (3 : Int32).toInt = 3 := rfl; omega)
  rw [e5]
  have s0 : ∃ b, b < 2 ^ 1 ∧ (0 : Int32) + bv (C 0 = 0 ∧ C 1 = 0) 1 = nI b ∧ b2i (C 0 = 0 ∧ C 1 = 0) = nI b := by
    by_cases h : C 0 = 0 ∧ C 1 = 0
    · rw [bv_t h, b2i_t h]; exact ⟨1, by decide, rfl, rfl⟩
    · rw [bv_f h, b2i_f h]; exact ⟨0, by decide, rfl, rfl⟩
  obtain ⟨b, -, h1, h2⟩ := or_add (p := C 2 < 0 ∨ C 3 < 0) (or_add (p := m_of (VB A K) C 2 = 3 ∧ 4 < VB A K 26 (C 4).toNatClampNeg) (or_add (p := 3 ≤ m_nch C) (or_add (p := C 0 = 2 ∧ ¬ C 1 = 0) (or_add (p := C 0 = 2 ∧ C 1 = 0 ∧ 20 < nI n) (or_add (p := m_of (VB A K) C 2 = 4) (or_add (p := m_of (VB A K) C 0 = 3 ∧ m_of (VB A K) C 1 = 3) s0 (v := 2) rfl) (v := 4) rfl) (v := 8) rfl) (v := 16) rfl) (v := 32) rfl) (v := 64) rfl) (v := 128) rfl
  exact h1.trans h2.symm
theorem kS_N (hK : KO A K) {s : Nat} (hs : s < 7) : kS K s = kN A s := by
  unfold kS kN
  by_cases h : s = 0
  · rw [if_pos h, if_pos h]
  · rw [if_neg h, if_neg h]; exact (hK (s - 1) (by omega)).1
theorem law_cost (hT : Tbl n I A L) (hW : Wsh I A) (hK : KO A K) (hd : dgt m a s0 s1 s2 s3) (hx : dist s0 s1 s2 s3) (hf : digF C m a s0 s1 s2 s3) :
    addL (VB A K 24) (softL A K C) 8 0 (nI (0 + b0N (kS K s0) + b1N (kS K s1) + b2N (kS K s2) + b3N (kS K s3))) + m_gap (VB A K) C n / 5 = f_cost I A L (cod m a s0 s1 s2 s3) := by
  have hL := vb_link hT hW hK
  obtain ⟨hm, ha, t0, t1, t2, t3⟩ := id hd
  rw [addL_M, soft_eq hT.2.2.1, m_soft_N hL hd hx hf, m_gap_N hL hd hf n (Nat.le_refl n), show (5 : Int32) = nI 5 from rfl,
    pk_div (d := 5) (by have := gc_le (A := A) (s0 := s0) (s1 := s1) (s2 := s2) (s3 := s3) hL.1; unfold gcN at this; omega) (by decide) (by decide)]
  rw [co_N hL hd, kS_N hK t0, kS_N hK t1, kS_N hK t2, kS_N hK t3]
  have := addM_N (W := VB A K 24) (w := wN A) (fun k hk => (wN_e hL hk).2.1) (sR (I 2) A m a s0 s1 s2 s3) (0 + b0N (kN A s0) + b1N (kN A s1) + b2N (kN A s2) + b3N (kN A s3)) 8 0 rfl
  rw [show sumW (sR (I 2) A m a s0 s1 s2 s3) (wN A) 0 = 0 from rfl, Nat.add_zero] at this
  rw [this, nI_add]
  unfold coN bsN gcN
  congr 1
  omega
end ALIKE
