/-! what the search and the trial rely on -/
section HOPE
variable {n : Nat} {I : Nat → Int32} {A : Nat → Nat → Int32} {L : Nat → Nat → Int64} {B : Nat → Nat → Int32} {m a x y c s c' : Nat}
def fbP (I : Nat → Int32) (A : Nat → Nat → Int32) (c : Int32) : Prop := ¬ (kd A c 0 = -1 ∧ kd A c 1 = -1) ∧ ¬ f_dull A c ∧ ¬ (¬ kd A c 3 = -1 ∧ ¬ (kd A c 3 = 4 ∧ g_mark c = 112)) ∧
  ¬ (g_mark c = 98 ∧ ¬ ((kd A c 0 = 3 ∨ kd A c 0 = 2) ∧ f_hgt A c)) ∧ ¬ (g_mark c = 108 ∧ ¬ ((kd A c 0 = 2 ∨ kd A c 0 = 4) ∧ f_hgt A c)) ∧
  ¬ (g_agg c = 1 ∧ ¬ kd A c 1 = -1) ∧ ¬ (g_agg c = 2 ∧ ¬ (kd A c 1 = 4 ∧ (kd A c 0 = 3 ∨ kd A c 0 = 2))) ∧ ¬ f_forbs I c
theorem fb_0 {c : Int32} (h : f_fb I A c = 0) : fbP I A c := by
  unfold f_fb at h
  by_cases c1 : kd A c 0 = -1 ∧ kd A c 1 = -1
  · rw [if_pos c1] at h; exact absurd h (by decide)
  rw [if_neg c1] at h
  by_cases c2 : f_dull A c
  · rw [if_pos c2] at h; exact absurd h (by decide)
  rw [if_neg c2] at h
  by_cases c3 : ¬ kd A c 3 = -1 ∧ ¬ (kd A c 3 = 4 ∧ g_mark c = 112)
  · rw [if_pos c3] at h; exact absurd h (by decide)
  rw [if_neg c3] at h
  by_cases c4 : g_mark c = 98 ∧ ¬ ((kd A c 0 = 3 ∨ kd A c 0 = 2) ∧ f_hgt A c)
  · rw [if_pos c4] at h; exact absurd h (by decide)
  rw [if_neg c4] at h
  by_cases c5 : g_mark c = 108 ∧ ¬ ((kd A c 0 = 2 ∨ kd A c 0 = 4) ∧ f_hgt A c)
  · rw [if_pos c5] at h; exact absurd h (by decide)
  rw [if_neg c5] at h
  by_cases c6 : g_agg c = 1 ∧ ¬ kd A c 1 = -1
  · rw [if_pos c6] at h; exact absurd h (by decide)
  rw [if_neg c6] at h
  by_cases c7 : g_agg c = 2 ∧ ¬ (kd A c 1 = 4 ∧ (kd A c 0 = 3 ∨ kd A c 0 = 2))
  · rw [if_pos c7] at h; exact absurd h (by decide)
  rw [if_neg c7] at h
  by_cases c8 : f_forbs I c
  · rw [if_pos c8] at h; exact absurd h (by decide)
  exact ⟨c1, c2, c3, c4, c5, c6, c7, c8⟩
theorem fb_09 {c : Int32} (h : fbP I A c) : f_fb I A c = 0 ∨ f_fb I A c = 9 := by
  obtain ⟨c1, c2, c3, c4, c5, c6, c7, c8⟩ := h
  unfold f_fb
  rw [if_neg c1, if_neg c2, if_neg c3, if_neg c4, if_neg c5, if_neg c6, if_neg c7, if_neg c8]
  by_cases c9 : f_wished I c
  · rw [if_pos c9]; exact Or.inl rfl
  · rw [if_neg c9]; exact Or.inr rfl
theorem kN_0 : kN A 0 = -1 := if_pos rfl
theorem hop_1 (h : dgt m a 0 0 c s) : ¬ f_fb I A (cod m a 0 0 c s) = 0 := by
  intro z
  obtain ⟨k0, k1, -, -⟩ := kd_c (A := A) h
  exact (fb_0 z).1 ⟨k0.trans kN_0, k1.trans kN_0⟩
theorem dgt_st (h : dgt m a x y c s) (hc : c' = 0 ∨ c' = c) : dgt m a x y c' 0 := by
  obtain ⟨h1, h2, h3, h4, h5, h6⟩ := h
  exact ⟨h1, h2, h3, h4, by omega, by omega⟩
theorem hop_fb (h : dgt m a x y c s) (hc : c' = 0 ∨ c' = c) (hf : f_fb I A (cod m a x y c s) = 0) : f_fb I A (cod m a x y c' 0) = 0 ∨ f_fb I A (cod m a x y c' 0) = 9 := by
  have h' := dgt_st h hc
  obtain ⟨k0, k1, k2, k3⟩ := kd_c (A := A) h
  obtain ⟨l0, l1, l2, l3⟩ := kd_c (A := A) h'
  obtain ⟨c1, c2, c3, c4, c5, c6, c7, c8⟩ := fb_0 hf
  rw [kN_0] at l3
  apply fb_09
  rw [k0, k1] at c1
  unfold f_hgt at c4 c5
  rw [k0, k1, cod_mark h] at c4 c5
  rw [k1, cod_agg h] at c6
  rw [k0, k1, cod_agg h] at c7
  rw [cod_agg h] at c4 c5
  have hdull : ∀ z : Int32, z = -1 → ¬ dlk z := by intro z hz; subst hz; decide
  refine ⟨?_, ?_, ?_, ?_, ?_, ?_, ?_, ?_⟩
  · rw [l0, l1]; exact c1
  · rintro (z | z | z | z)
    · rw [l0] at z; exact c2 (Or.inl (by rw [k0]; exact z))
    · rw [l1] at z; exact c2 (Or.inr (Or.inl (by rw [k1]; exact z)))
    · rw [l2] at z
      rcases hc with hc | hc
      · subst hc; exact hdull _ kN_0 z
      · subst hc; exact c2 (Or.inr (Or.inr (Or.inl (by rw [k2]; exact z))))
    · exact hdull _ l3 z
  · rw [l3]; exact fun z => z.1 rfl
  · unfold f_hgt; rw [l0, l1, cod_mark h', cod_agg h']; exact c4
  · unfold f_hgt; rw [l0, l1, cod_mark h', cod_agg h']; exact c5
  · rw [l1, cod_agg h']; exact c6
  · rw [l0, l1, cod_agg h']; exact c7
  · unfold f_forbs at c8 ⊢
    rw [cod_c0 h, cod_c1 h, cod_c2 h, cod_c3 h] at c8
    rw [cod_c0 h', cod_c1 h', cod_c2 h', cod_c3 h']
    rintro (z | z | z | z)
    · exact c8 (Or.inl z)
    · exact c8 (Or.inr (Or.inl z))
    · rcases hc with hc | hc
      · subst hc; exact z.1 xI_0
      · subst hc; exact c8 (Or.inr (Or.inr (Or.inl z)))
    · exact z.1 xI_0
theorem GN_0 {r : Nat} : ¬ (GN A n 0).testBit r = true := fun z => (GN_b.mp z).1 rfl
theorem hop_gc (hc : c' = 0 ∨ c' = c) : gcN A n x y c' 0 ≤ gcN A n x y c s := by
  unfold gcN
  refine fb_ct_sub (fun r _ hr => ?_)
  rw [GA_b] at hr ⊢
  rcases hr with ((z | z) | z) | z
  · exact Or.inl (Or.inl (Or.inl z))
  · exact Or.inl (Or.inl (Or.inr z))
  · rcases hc with hc | hc
    · subst hc; exact absurd z GN_0
    · subst hc; exact Or.inl (Or.inr z)
  · exact absurd z GN_0
theorem b2i_imp {P Q : Prop} [Decidable P] [Decidable Q] (h : P → Q) : b2i P = 0 ∨ ¬ b2i Q = 0 := by
  by_cases hp : P
  · exact Or.inr (b2i_nz.mpr (h hp))
  · exact Or.inl (b2i_z.mpr hp)
theorem sc_sub (hc : c' = 0 ∨ c' = c) : fb_ct (fun e => (scN x y c' 0).testBit e) 6 ≤ fb_ct (fun e => (scN x y c s).testBit e) 6 := by
  refine fb_ct_sub (fun e _ he => ?_)
  rw [scN_b] at he ⊢
  rcases hc with hc | hc <;> subst hc <;> omega
theorem hop_sR (w : Int32) (hc : c' = 0 ∨ c' = c) {r : Nat} : sR w A m a x y c' 0 r = 0 ∨ ¬ sR w A m a x y c s r = 0 := by
  have hz : ∀ v : Int32, ¬ v = -1 → c' = 0 → ¬ kN A c' = v := by
    intro v hv h0 z; subst h0; exact hv (z.symm.trans kN_0)
  unfold sR
  by_cases r0 : r = 0
  · rw [if_pos r0, if_pos r0]; exact b2i_imp id
  rw [if_neg r0, if_neg r0]
  by_cases r1 : r = 1
  · rw [if_pos r1, if_pos r1]; exact b2i_imp id
  rw [if_neg r1, if_neg r1]
  by_cases r2 : r = 2
  · rw [if_pos r2, if_pos r2]
    refine b2i_imp (fun h => ?_)
    rcases hc with hc | hc
    · exact absurd h (hz 4 (by decide) hc)
    · rw [← hc]; exact h
  rw [if_neg r2, if_neg r2]
  by_cases r3 : r = 3
  · rw [if_pos r3, if_pos r3]; exact b2i_imp id
  rw [if_neg r3, if_neg r3]
  by_cases r4 : r = 4
  · rw [if_pos r4, if_pos r4]; exact b2i_imp id
  rw [if_neg r4, if_neg r4]
  by_cases r5 : r = 5
  · rw [if_pos r5, if_pos r5]
    exact b2i_imp (fun h => Nat.le_trans h (sc_sub hc))
  rw [if_neg r5, if_neg r5]
  by_cases r6 : r = 6
  · rw [if_pos r6, if_pos r6]
    refine b2i_imp (fun h => ?_)
    rcases hc with hc | hc
    · exact absurd h.1 (hz 3 (by decide) hc)
    · rw [← hc]; exact h
  rw [if_neg r6, if_neg r6]
  exact b2i_imp id
theorem hop_co (w : Int32) (hc : c' = 0 ∨ c' = c) : coN w A n m a x y c' 0 ≤ coN w A n m a x y c s := by
  have h1 := hop_gc (A := A) (n := n) (x := x) (y := y) (s := s) hc
  have h2 := sumW_mono (w := wN A) 8 (fun r _ => hop_sR (A := A) (m := m) (a := a) (x := x) (y := y) (s := s) w hc (r := r))
  have h3 : b2N (kN A c') ≤ b2N (kN A c) := by
    rcases hc with hc | hc
    · rw [hc, kN_0]; exact Nat.zero_le _
    · rw [hc]; exact Nat.le_refl _
  have h4 : b3N (kN A 0) = 0 := by rw [kN_0]; rfl
  unfold coN bsN
  have h5 : gcN A n x y c' 0 / 5 ≤ gcN A n x y c s / 5 := Nat.div_le_div_right h1
  omega
theorem Hop_L (hL : Link n I A L B) : Hop (f_fb I A) (f_cost I A L) := by
  refine ⟨fun m a c s h => hop_1 h, fun m a x y c s h _ hf c' hc => ⟨hop_fb h hc hf, ?_⟩⟩
  have h' := dgt_st h hc
  rw [co_N hL h, co_N hL h']
  refine p_le_N (coN_lt hL (I 2)) (cdN_lt h') (coN_lt hL (I 2)) (cdN_lt h) (hop_co (I 2) hc) ?_
  unfold cdN
  rcases hc with hc | hc <;> subst hc <;> omega
theorem dull_L {m a s0 s1 s2 s3 : Nat} (h : dgt m a s0 s1 s2 s3) (hd : f_dull A (nI (512 * s0 + (64 * s1 + (8 * s2 + s3))))) : ¬ f_fb I A (cod m a s0 s1 s2 s3) = 0 := by
  intro z
  obtain ⟨h1, h2, h3, h4, h5, h6⟩ := id h
  have hl : 512 * s0 + (64 * s1 + (8 * s2 + s3)) < 16777216 := by omega
  have e0 : kd A (nI (512 * s0 + (64 * s1 + (8 * s2 + s3)))) 0 = kd A (cod m a s0 s1 s2 s3) 0 := by
    unfold kd; rw [gN_c0 hl, cod_c0 h, show (512 * s0 + (64 * s1 + (8 * s2 + s3))) / 512 % 8 = s0 by omega]
  have e1 : kd A (nI (512 * s0 + (64 * s1 + (8 * s2 + s3)))) 1 = kd A (cod m a s0 s1 s2 s3) 1 := by
    unfold kd; rw [gN_c1 hl, cod_c1 h, show (512 * s0 + (64 * s1 + (8 * s2 + s3))) / 64 % 8 = s1 by omega]
  have e2 : kd A (nI (512 * s0 + (64 * s1 + (8 * s2 + s3)))) 2 = kd A (cod m a s0 s1 s2 s3) 2 := by
    unfold kd; rw [gN_c2 hl, cod_c2 h, show (512 * s0 + (64 * s1 + (8 * s2 + s3))) / 8 % 8 = s2 by omega]
  have e3 : kd A (nI (512 * s0 + (64 * s1 + (8 * s2 + s3)))) 3 = kd A (cod m a s0 s1 s2 s3) 3 := by
    unfold kd; rw [gN_c3 hl, cod_c3 h, show (512 * s0 + (64 * s1 + (8 * s2 + s3))) % 8 = s3 by omega]
  refine (fb_0 z).2.1 ?_
  unfold f_dull at hd ⊢
  rw [e0, e1, e2, e3] at hd
  exact hd
end HOPE
