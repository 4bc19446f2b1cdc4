/-! what a chart breaks: the class and the model alike -/
def bN (g : Nat → Int32) : Nat → Nat
  | 0 => 0
  | m + 1 => bN g m ||| (if g m = 0 then 0 else 2 ^ m)
theorem bN_lt (g : Nat → Int32) : ∀ m, bN g m < 2 ^ m
  | 0 => Nat.one_pos
  | m + 1 => by
    have h1 : bN g m < 2 ^ (m + 1) := Nat.lt_of_lt_of_le (bN_lt g m) (Nat.pow_le_pow_right (by decide) (by omega))
    have h2 : (if g m = 0 then 0 else 2 ^ m) < 2 ^ (m + 1) := by
      split
      · exact Nat.two_pow_pos _
      · exact Nat.pow_lt_pow_right (by decide) (by omega)
    exact Nat.or_lt_two_pow h1 h2
theorem bN_b (g : Nat → Int32) : ∀ m e, (bN g m).testBit e = true ↔ e < m ∧ ¬ g e = 0
  | 0, e => by simp [bN]
  | m + 1, e => by
    rw [bN, Nat.testBit_or, Bool.or_eq_true, bN_b g m e]
    by_cases h : g m = 0
    · rw [if_pos h, Nat.zero_testBit]
      constructor
      · rintro (z | z)
        · exact ⟨by omega, z.2⟩
        · cases z
      · intro z
        by_cases he : e = m
        · subst he; exact absurd h z.2
        · exact Or.inl ⟨by omega, z.2⟩
    · rw [if_neg h, Nat.testBit_two_pow, decide_eq_true_eq]
      constructor
      · rintro (z | z)
        · exact ⟨by omega, z.2⟩
        · subst z; exact ⟨by omega, h⟩
      · intro z
        by_cases he : e = m
        · exact Or.inr he.symm
        · exact Or.inl ⟨by omega, z.2⟩
theorem bN_u {g : Nat → Int32} {m N : Nat} (hN : N < 2 ^ m) (h : ∀ e, e < m → (N.testBit e = true ↔ ¬ g e = 0)) : N = bN g m := by
  apply Nat.eq_of_testBit_eq
  intro e
  by_cases he : e < m
  · have h1 := h e he
    have h2 := bN_b g m e
    cases ha : N.testBit e <;> cases hb : (bN g m).testBit e
    · rfl
    · rw [ha] at h1; rw [hb] at h2; have := h1.mpr (h2.mp rfl).2; cases this
    · rw [ha] at h1; rw [hb] at h2; have := h2.mpr ⟨he, h1.mp rfl⟩; cases this
    · rfl
  · have p : 2 ^ m ≤ 2 ^ e := Nat.pow_le_pow_right (by decide) (by omega)
    rw [Nat.testBit_lt_two_pow (Nat.lt_of_lt_of_le hN p), Nat.testBit_lt_two_pow (Nat.lt_of_lt_of_le (bN_lt g m) p)]
theorem ct_cut {p : Nat → Bool} {m w : Nat} (h : m ≤ w) (hz : ∀ e, m ≤ e → p e = false) : fb_ct p w = fb_ct p m := by
  obtain ⟨d, rfl⟩ : ∃ d, w = m + d := ⟨w - m, by omega⟩
  rw [fb_ct_split, fb_ct_zero.mpr (fun k _ => hz (m + k) (by omega))]; rfl
theorem cntB_N (g : Nat → Int32) : ∀ m, cntB g m = nI (fb_ct (fun e => decide (¬ g e = 0)) m)
  | 0 => rfl
  | m + 1 => by
    rw [cntB, fb_ct_succ, cntB_N g m]
    by_cases h : g m = 0
    · rw [if_pos h, decide_eq_false (fun z => z h)]; exact Int32.add_zero _
    · rw [if_neg h, decide_eq_true h]; exact nI_1 _
theorem bN_ct (g : Nat → Int32) {m w : Nat} (h : m ≤ w) : fb_ct (fun e => (bN g m).testBit e) w = fb_ct (fun e => decide (¬ g e = 0)) m := by
  have hz : ∀ e, m ≤ e → (bN g m).testBit e = false := by
    intro e he
    cases hb : (bN g m).testBit e with
    | false => rfl
    | true => have := ((bN_b g m e).mp hb).1; omega
  rw [ct_cut h hz]
  apply fb_ct_cong
  intro k hk
  have := bN_b g m k
  by_cases hg : g k = 0
  · rw [decide_eq_false (fun z => z hg)]
    cases hb : (bN g m).testBit k with
    | false => rfl
    | true => exact absurd hg (this.mp hb).2
  · rw [decide_eq_true hg]; exact this.mpr ⟨hk, hg⟩
theorem bc_cnt (g : Nat → Int32) {m : Nat} (h : m ≤ 32) : g_bc (nI (bN g m)) = cntB g m := by
  have p : 2 ^ m ≤ 2 ^ 32 := Nat.pow_le_pow_right (by decide) h
  rw [g_bc_N (Nat.lt_of_lt_of_le (bN_lt g m) p), bN_ct g h, cntB_N]
/-- one bit of a small number -/
theorem bit_N {N e : Nat} (hN : N < 2 ^ 31) (he : e < 31) : ((nI N >>> (nI e &&& 31)) &&& 1) = 0 ↔ ¬ N.testBit e = true := by
  rw [pk_shrN (k := e) hN _ (s_l e (by omega)), pk_andN (k := 1) (Nat.lt_of_le_of_lt (Nat.div_le_self _ _) (by omega)) (by decide), Nat.testBit_eq_decide_div_mod_eq, decide_eq_true_eq]
  have h2 : N / 2 ^ e % 2 ^ 1 = N / 2 ^ e % 2 := rfl
  rw [h2]
  rcases (show N / 2 ^ e % 2 = 0 ∨ N / 2 ^ e % 2 = 1 by omega) with z | z <;> rw [z] <;> decide
def kN (A : Nat → Nat → Int32) (s : Nat) : Int32 := if s = 0 then -1 else A 4 (s - 1)
theorem xI_s (s : Nat) : xI (s + 1) = nI s := nI_pred s
theorem xI_0 : xI 0 = -1 := by decide
theorem xI_col {s : Nat} (h : s < 7) : isCol (xI s) ↔ ¬ s = 0 := by
  have : ∀ s, s < 7 → (isCol (xI s) ↔ ¬ s = 0) := by decide +kernel
  exact this s h
theorem xI_cl {s : Nat} (h : s < 7) (h0 : ¬ s = 0) : (xI s).toNatClampNeg = s - 1 := by
  obtain ⟨j, rfl⟩ : ∃ j, s = j + 1 := ⟨s - 1, by omega⟩
  rw [xI_s, nI_cl (n := 7) (by omega) (by decide)]; rfl
theorem kindAt_x (A : Nat → Nat → Int32) {s : Nat} (h : s < 7) : f_kindAt A (xI s) = kN A s := by
  unfold f_kindAt kN
  by_cases h0 : s = 0
  · rw [if_neg (fun z => (xI_col h).mp z h0), if_pos h0]
  · rw [if_pos ((xI_col h).mpr h0), if_neg h0, xI_cl h h0]
theorem xI_ge {s : Nat} (h : s < 7) : 0 ≤ xI s ↔ ¬ s = 0 := by
  have := xI_neg h
  rw [i_lt] at this; rw [i_le]
  have z : (0 : Int32).toInt = 0 := rfl
  omega
def digF (f : Nat → Int32) (m a s0 s1 s2 s3 : Nat) : Prop := f 0 = nI m ∧ f 1 = nI a ∧ f 2 = xI s0 ∧ f 3 = xI s1 ∧ f 4 = xI s2 ∧ f 5 = xI s3
/-- what the class and the model know alike; B: the model's rows, its kinds up to date -/
def Link (n : Nat) (I : Nat → Int32) (A : Nat → Nat → Int32) (L : Nat → Nat → Int64) (B : Nat → Nat → Int32) : Prop :=
  n ≤ 40 ∧ I 2 = nI n ∧ (∀ j, j < 6 → B 25 j = A 4 j ∧ B 26 j = A 6 j ∧ 0 ≤ A 4 j ∧ A 4 j ≤ 4 ∧ L 8 j = stGap (cv A j) n) ∧ (∀ c r, c < 6 → r < n → cv A c r = mv B c r) ∧
  I 3 = nI (bN (B 27) 6) ∧ I 5 = nI (bN (B 28) 24) ∧ ∀ j, j < 8 → A 11 j = B 24 j ∧ 0 ≤ B 24 j ∧ B 24 j ≤ 99
section LINK
variable {n : Nat} {I : Nat → Int32} {A : Nat → Nat → Int32} {L : Nat → Nat → Int64} {B : Nat → Nat → Int32} {f : Nat → Int32} {m a s0 s1 s2 s3 : Nat}
theorem kN_r (hL : Link n I A L B) {s : Nat} (hs : s < 7) : kN A s = -1 ∨ kN A s = 0 ∨ kN A s = 1 ∨ kN A s = 2 ∨ kN A s = 3 ∨ kN A s = 4 := by
  unfold kN
  by_cases h0 : s = 0
  · rw [if_pos h0]; exact Or.inl rfl
  · rw [if_neg h0]
    obtain ⟨-, -, h1, h2, -⟩ := hL.2.2.1 (s - 1) (by omega)
    have zl := lits
    simp only [i_le] at h1 h2
    simp only [i_eq]
    omega
theorem kN_m1 (hL : Link n I A L B) {s : Nat} (hs : s < 7) : kN A s = -1 ↔ s = 0 := by
  constructor
  · intro h
    refine Classical.byContradiction (fun h0 => ?_)
    unfold kN at h
    rw [if_neg h0] at h
    have h1 := (hL.2.2.1 (s - 1) (by omega)).2.2.1
    rw [h] at h1
    exact absurd h1 (by decide)
  · intro h; unfold kN; rw [if_pos h]
theorem mof_k (hL : Link n I A L B) {k s : Nat} (hs : s < 7) (hf : f (2 + k) = xI s) : m_of B f k = kN A s := by
  unfold m_of kN
  rw [hf]
  by_cases h0 : s = 0
  · rw [if_pos ((xI_neg hs).mpr h0), if_pos h0]
  · rw [if_neg (fun z => h0 ((xI_neg hs).mp z)), if_neg h0, xI_cl hs h0]
    exact (hL.2.2.1 (s - 1) (by omega)).1
theorem dd_k (hL : Link n I A L B) {k s : Nat} (hs : s < 7) (hf : f (2 + k) = xI s) : m_dd B f k ↔ dlk (kN A s) := by
  unfold m_dd dlk
  rw [mof_k hL hs hf]
  rcases kN_r hL hs with z | z | z | z | z | z <;> rw [z] <;> decide
theorem oo_k (hL : Link n I A L B) {k s : Nat} (hk : k < 4) (hs : s < 7) (hf : f (2 + k) = xI s) : m_oo B f k ↔ f_forb I (xI s) (nI k) := by
  unfold m_oo f_forb
  rw [hf, xI_ge hs]
  cases s with
  | zero => simp [xI_0]
  | succ j =>
    have hn : ¬ xI (j + 1) = -1 := by
      rw [← xI_0]; intro z; have := xI_inj hs (by decide) z; omega
    rw [xI_cl hs (by omega), xI_s] at *
    rw [show nI j * 4 + nI k = nI (4 * j + k) from by rw [show (4 : Int32) = nI 4 from rfl, pk_mul, nI_add, Nat.mul_comm], hL.2.2.2.2.2.1, bit_N (Nat.lt_trans (bN_lt _ 24) (by decide)) (by omega), bN_b]
    constructor
    · rintro ⟨-, h⟩; exact ⟨hn, fun z => z ⟨by omega, h⟩⟩
    · rintro ⟨-, h⟩; exact ⟨by omega, fun z => h (fun y => y.2 z)⟩
theorem set_and : ∀ W, W < 64 → ∀ S, S < 64 → decide ((nI W &&& (nI S ^^^ (-1))) = 0) = decide (W &&& S = W) := by decide +kernel
theorem and_sub {W S : Nat} : W &&& S = W ↔ ∀ e, W.testBit e = true → S.testBit e = true := by
  constructor
  · intro h e he
    rw [← h, Nat.testBit_and, Bool.and_eq_true] at he; exact he.2
  · intro h
    apply Nat.eq_of_testBit_eq
    intro e
    rw [Nat.testBit_and]
    cases hb : W.testBit e with
    | false => rfl
    | true => rw [h e hb]; rfl
theorem wish_k (hL : Link n I A L B) (h : dgt m a s0 s1 s2 s3) (hf : digF f m a s0 s1 s2 s3) : wshM (I 4) B f 6 ↔ f_wished I (cod m a s0 s1 s2 s3) := by
  obtain ⟨f0, f1, f2, f3, f4, f5⟩ := hf
  unfold wshM f_wished
  rw [f0, named_mkN h.1, cod_mark h, cod_set h, hL.2.2.2.2.1]
  have hs := scN_lt h.2.2.1 h.2.2.2.1 h.2.2.2.2.1 h.2.2.2.2.2
  have hb := bN_lt (B 27) 6
  have z := set_and _ hb _ hs
  have e : (nI (bN (B 27) 6) &&& (nI (scN s0 s1 s2 s3) ^^^ (-1))) = 0 ↔ bN (B 27) 6 &&& scN s0 s1 s2 s3 = bN (B 27) 6 := by
    constructor
    · intro y; rw [decide_eq_true y] at z; exact of_decide_eq_true z.symm
    · intro y; rw [decide_eq_true y] at z; exact of_decide_eq_true z
  rw [e, and_sub]
  refine and_congr Iff.rfl ?_
  have key : ∀ e, e < 6 → (wshC B f e ↔ (¬ B 27 e = 0 → (e + 1 = s0 ∨ e + 1 = s1 ∨ e + 1 = s2 ∨ e + 1 = s3))) := by
    intro e he
    unfold wshC
    rw [f2, f3, f4, f5]
    have q : ∀ s, s < 7 → (xI s = nI e ↔ e + 1 = s) := by
      intro s hs
      rw [← xI_s e]
      constructor
      · intro y; exact (xI_inj hs (by omega) y).symm
      · intro y; rw [y]
    rw [q s0 h.2.2.1, q s1 h.2.2.2.1, q s2 h.2.2.2.2.1, q s3 h.2.2.2.2.2]
    constructor
    · rintro (y | y) z
      · exact absurd y z
      · exact y
    · intro y
      by_cases hz : B 27 e = 0
      · exact Or.inl hz
      · exact Or.inr (y hz)
  constructor
  · intro hw e he
    obtain ⟨h6, h0⟩ := (bN_b _ _ _).mp he
    exact scN_b.mpr ((key e h6).mp (hw e h6) h0)
  · intro hw e he
    refine (key e he).mpr (fun hz => scN_b.mp (hw e ((bN_b _ _ _).mpr ⟨he, hz⟩)))
/-- WHAT A CHART BREAKS -/
theorem fb_eq (hL : Link n I A L B) (h : dgt m a s0 s1 s2 s3) (hf : digF f m a s0 s1 s2 s3) : f_fb I A (cod m a s0 s1 s2 s3) = m_fb (I 4) B f := by
  have hw := wish_k hL h hf
  obtain ⟨f0, f1, f2, f3, f4, f5⟩ := hf
  obtain ⟨hm, ha, t0, t1, t2, t3⟩ := id h
  have k0 : kd A (cod m a s0 s1 s2 s3) 0 = kN A s0 := by unfold kd; rw [cod_c0 h, kindAt_x A t0]
  have k1 : kd A (cod m a s0 s1 s2 s3) 1 = kN A s1 := by unfold kd; rw [cod_c1 h, kindAt_x A t1]
  have k2 : kd A (cod m a s0 s1 s2 s3) 2 = kN A s2 := by unfold kd; rw [cod_c2 h, kindAt_x A t2]
  have k3 : kd A (cod m a s0 s1 s2 s3) 3 = kN A s3 := by unfold kd; rw [cod_c3 h, kindAt_x A t3]
  have m0 := mof_k (k := 0) hL t0 f2
  have m1 := mof_k (k := 1) hL t1 f3
  have m3 := mof_k (k := 3) hL t3 f5
  have hd : m_dead B f ↔ f_dull A (cod m a s0 s1 s2 s3) := by
    unfold m_dead f_dull
    rw [k0, k1, k2, k3, dd_k (k := 0) hL t0 f2, dd_k (k := 1) hL t1 f3, dd_k (k := 2) hL t2 f4, dd_k (k := 3) hL t3 f5, or_assoc, or_assoc]
  have ho : m_off B f ↔ f_forbs I (cod m a s0 s1 s2 s3) := by
    unfold m_off f_forbs
    rw [cod_c0 h, cod_c1 h, cod_c2 h, cod_c3 h, oo_k (k := 0) hL (by decide) t0 f2, oo_k (k := 1) hL (by decide) t1 f3, oo_k (k := 2) hL (by decide) t2 f4, oo_k (k := 3) hL (by decide) t3 f5, or_assoc, or_assoc]
    exact Iff.rfl
  have e2 : f 2 < 0 ↔ kN A s0 = -1 := by rw [f2, xI_neg t0, kN_m1 hL t0]
  have e3 : f 3 < 0 ↔ kN A s1 = -1 := by rw [f3, xI_neg t1, kN_m1 hL t1]
  have g2 : 0 ≤ f 2 ↔ ¬ kN A s0 = -1 := by rw [f2, xI_ge t0, kN_m1 hL t0]
  have g3 : 0 ≤ f 3 ↔ ¬ kN A s1 = -1 := by rw [f3, xI_ge t1, kN_m1 hL t1]
  have g5 : 0 ≤ f 5 ↔ ¬ kN A s3 = -1 := by rw [f5, xI_ge t3, kN_m1 hL t3]
  have hmk : (f 0 = 0 ↔ g_mark (cod m a s0 s1 s2 s3) = 98) ∧ (f 0 = 1 ↔ g_mark (cod m a s0 s1 s2 s3) = 108) ∧ (f 0 = 2 ↔ g_mark (cod m a s0 s1 s2 s3) = 112) := by
    rw [f0, cod_mark h]
    rcases (show m = 0 ∨ m = 1 ∨ m = 2 by omega) with rfl | rfl | rfl <;> decide
  have hag : f 1 = g_agg (cod m a s0 s1 s2 s3) := by rw [f1, cod_agg h]
  unfold f_fb m_fb f_hgt m_b4 m_b5 m_grp
  simp only [hd, ho, hw]
  simp only [e2, e3, g2, g3, g5, hmk.1, hmk.2.1, hmk.2.2, m0, m1, m3, k0, k1, k3, hag]
  generalize kN A s0 = x
  generalize kN A s1 = y
  generalize kN A s3 = z
  by_cases c1 : x = -1 ∧ y = -1
  · rw [if_pos c1, if_pos (Or.inl c1), if_neg (fun q => q.2.elim (fun r => r c1.1) (fun r => r c1.2))]
  rw [if_neg c1]
  by_cases c2 : f_dull A (cod m a s0 s1 s2 s3)
  · have c3 : ¬ x = -1 ∨ ¬ y = -1 := by
      by_cases hx : x = -1
      · exact Or.inr (fun hy => c1 ⟨hx, hy⟩)
      · exact Or.inl hx
    rw [if_pos c2, if_pos (Or.inr c2), if_pos ⟨c2, c3⟩]
  rw [if_neg c2, if_neg (show ¬ ((x = -1 ∧ y = -1) ∨ f_dull A (cod m a s0 s1 s2 s3)) from fun q => q.elim c1 c2)]
  by_cases c3 : ¬ z = -1 ∧ ¬ (z = 4 ∧ g_mark (cod m a s0 s1 s2 s3) = 112)
  · rw [if_pos c3, if_pos c3]
  rw [if_neg c3, if_neg c3]
  by_cases c4 : g_mark (cod m a s0 s1 s2 s3) = 98 ∧ ¬ ((x = 3 ∨ x = 2) ∧ (y = 4 ∨ g_agg (cod m a s0 s1 s2 s3) = 1))
  · rw [if_pos c4, if_pos (Or.inl c4), if_pos c4]
  rw [if_neg c4]
  by_cases c5 : g_mark (cod m a s0 s1 s2 s3) = 108 ∧ ¬ ((x = 2 ∨ x = 4) ∧ (y = 4 ∨ g_agg (cod m a s0 s1 s2 s3) = 1))
  · rw [if_pos c5, if_pos (Or.inr c5), if_neg c4]
  rw [if_neg c5]
  refine Eq.symm (if_neg (fun q => q.elim c4 c5))
end LINK
