/-! what a chart costs: the class and the model alike -/
theorem orE {x y : Int32} {a b : Nat} (hx : x = nI a) (hy : y = nI b) : x ||| y = nI (a ||| b) := by rw [hx, hy, fa_or]
theorem addE {x y : Int32} {a b : Nat} (hx : x = nI a) (hy : y = nI b) : x + y = nI (a + b) := by rw [hx, hy, nI_add]
theorem orEL {x y : Int64} {a b : Nat} (hx : x = lN a) (hy : y = lN b) : x ||| y = lN (a ||| b) := by rw [hx, hy, fb_orL]
theorem bN8 (g : Nat → Int32) : bN g 8 = (((((((((0 ||| (if g 0 = 0 then 0 else 2 ^ 0)) ||| (if g 1 = 0 then 0 else 2 ^ 1)) ||| (if g 2 = 0 then 0 else 2 ^ 2)) ||| (if g 3 = 0 then 0 else 2 ^ 3)) ||| (if g 4 = 0 then 0 else 2 ^ 4)) ||| (if g 5 = 0 then 0 else 2 ^ 5)) ||| (if g 6 = 0 then 0 else 2 ^ 6)) ||| (if g 7 = 0 then 0 else 2 ^ 7))) := rfl
theorem g_bitN {P P' : Prop} [Decidable P] [Decidable P'] (h : P ↔ P') {r : Int32} {k : Nat} (hr : (1 : Int32) <<< (r &&& 31) = nI (2 ^ k)) : g_bit r (b2i P) = nI (if b2i P' = 0 then 0 else 2 ^ k) := by
  unfold g_bit
  by_cases hp : P
  · rw [if_neg (b2i_nz.mpr hp), if_neg (b2i_nz.mpr (h.mp hp))]; exact hr
  · rw [if_pos (b2i_z.mpr hp), if_pos (b2i_z.mpr (fun z => hp (h.mpr z)))]; rfl
theorem bvN {P P' : Prop} [Decidable P] [Decidable P'] (h : P ↔ P') {v : Int32} {k : Nat} (hv : v = nI (2 ^ k)) : bv P v = nI (if b2i P' = 0 then 0 else 2 ^ k) := by
  unfold bv
  by_cases hp : P
  · rw [if_pos hp, if_neg (b2i_nz.mpr (h.mp hp))]; exact hv
  · rw [if_neg hp, if_pos (b2i_z.mpr (fun z => hp (h.mpr z)))]; rfl
theorem b2iN {P P' : Prop} [Decidable P] [Decidable P'] (h : P ↔ P') : b2i P = nI (if b2i P' = 0 then 0 else 2 ^ 0) := by
  by_cases hp : P
  · rw [b2i_t hp, if_neg (b2i_nz.mpr (h.mp hp))]; rfl
  · rw [b2i_f hp, if_pos (b2i_z.mpr (fun z => hp (h.mpr z)))]; rfl
def sR (w : Int32) (A : Nat → Nat → Int32) (m a s0 s1 s2 s3 : Nat) (r : Nat) : Int32 :=
  if r = 0 then b2i (m = 0 ∧ a = 0) else if r = 1 then b2i (kN A s0 = 3 ∧ kN A s1 = 3) else if r = 2 then b2i (kN A s2 = 4) else if r = 3 then b2i (m = 2 ∧ a = 0 ∧ 20 < w) else
  if r = 4 then b2i (m = 2 ∧ ¬ a = 0) else if r = 5 then b2i (3 ≤ fb_ct (fun e => (scN s0 s1 s2 s3).testBit e) 6) else if r = 6 then b2i (kN A s2 = 3 ∧ 4 < A 6 (s2 - 1)) else b2i (kN A s0 = -1 ∨ kN A s1 = -1)
theorem mk_98 {m : Nat} (h : m < 3) : nI (mkN m) = 98 ↔ m = 0 := by
  rcases (show m = 0 ∨ m = 1 ∨ m = 2 by omega) with rfl | rfl | rfl <;> decide
theorem mk_112 {m : Nat} (h : m < 3) : nI (mkN m) = 112 ↔ m = 2 := by
  rcases (show m = 0 ∨ m = 1 ∨ m = 2 by omega) with rfl | rfl | rfl <;> decide
theorem dg_0 {a : Nat} (h : a < 3) : nI a = 0 ↔ a = 0 := nI_eq (b := 0) (by omega) (by omega)
theorem dg_2 {a : Nat} (h : a < 3) : nI a = 2 ↔ a = 2 := nI_eq (b := 2) (by omega) (by omega)
theorem sc_ct {s0 s1 s2 s3 : Nat} (h3 : s0 < 7) (h4 : s1 < 7) (h5 : s2 < 7) (h6 : s3 < 7) : g_bc (nI (scN s0 s1 s2 s3)) = nI (fb_ct (fun e => (scN s0 s1 s2 s3).testBit e) 6) := by
  have hl := scN_lt h3 h4 h5 h6
  rw [g_bc_N (by omega), ct_cut (m := 6) (w := 32) (by decide) (fun e he => Nat.testBit_lt_two_pow (Nat.lt_of_lt_of_le hl (Nat.pow_le_pow_right (n := 2) (by decide) he)))]
theorem ct_le6 (p : Nat → Bool) : fb_ct p 6 < 2 ^ 31 := Nat.lt_of_le_of_lt (fb_ct_le p 6) (by decide)
theorem kN_df {A : Nat → Nat → Int32} {s : Nat} (h : s < 7) : (kN A s = 3 ∧ 4 < f_differentIn A (xI s)) ↔ (kN A s = 3 ∧ 4 < A 6 (s - 1)) := by
  refine and_congr_right (fun h3 => ?_)
  have h0 : ¬ s = 0 := by
    intro z; subst z; rw [show kN A 0 = -1 from if_pos rfl] at h3; exact absurd h3 (by decide)
  unfold f_differentIn
  rw [if_pos ((xI_col h).mpr h0), xI_cl h h0]
section COST
variable {n : Nat} {I : Nat → Int32} {A : Nat → Nat → Int32} {L : Nat → Nat → Int64} {B : Nat → Nat → Int32} {f : Nat → Int32} {m a s0 s1 s2 s3 : Nat}
theorem kd_c (h : dgt m a s0 s1 s2 s3) : kd A (cod m a s0 s1 s2 s3) 0 = kN A s0 ∧ kd A (cod m a s0 s1 s2 s3) 1 = kN A s1 ∧ kd A (cod m a s0 s1 s2 s3) 2 = kN A s2 ∧ kd A (cod m a s0 s1 s2 s3) 3 = kN A s3 := by
  obtain ⟨-, -, t0, t1, t2, t3⟩ := id h
  refine ⟨?_, ?_, ?_, ?_⟩
  · unfold kd; rw [cod_c0 h, kindAt_x A t0]
  · unfold kd; rw [cod_c1 h, kindAt_x A t1]
  · unfold kd; rw [cod_c2 h, kindAt_x A t2]
  · unfold kd; rw [cod_c3 h, kindAt_x A t3]
theorem soft_N (h : dgt m a s0 s1 s2 s3) : f_soft I A (cod m a s0 s1 s2 s3) = nI (bN (sR (I 2) A m a s0 s1 s2 s3) 8) := by
  obtain ⟨hm, ha, t0, t1, t2, t3⟩ := id h
  obtain ⟨k0, k1, k2, k3⟩ := kd_c (A := A) h
  have p0 : (g_mark (cod m a s0 s1 s2 s3) = 98 ∧ g_agg (cod m a s0 s1 s2 s3) = 0) ↔ (m = 0 ∧ a = 0) := by rw [cod_mark h, cod_agg h, mk_98 hm, dg_0 ha]
  have p1 : (kd A (cod m a s0 s1 s2 s3) 0 = 3 ∧ kd A (cod m a s0 s1 s2 s3) 1 = 3) ↔ (kN A s0 = 3 ∧ kN A s1 = 3) := by rw [k0, k1]
  have p2 : (kd A (cod m a s0 s1 s2 s3) 2 = 4) ↔ kN A s2 = 4 := by rw [k2]
  have p3 : (g_mark (cod m a s0 s1 s2 s3) = 112 ∧ g_agg (cod m a s0 s1 s2 s3) = 0 ∧ 20 < I 2) ↔ (m = 2 ∧ a = 0 ∧ 20 < I 2) := by rw [cod_mark h, cod_agg h, mk_112 hm, dg_0 ha]
  have p4 : (g_mark (cod m a s0 s1 s2 s3) = 112 ∧ ¬ g_agg (cod m a s0 s1 s2 s3) = 0) ↔ (m = 2 ∧ ¬ a = 0) := by rw [cod_mark h, cod_agg h, mk_112 hm, dg_0 ha]
  have p5 : (3 ≤ g_bc (g_set (cod m a s0 s1 s2 s3))) ↔ 3 ≤ fb_ct (fun e => (scN s0 s1 s2 s3).testBit e) 6 := by
    rw [cod_set h, sc_ct t0 t1 t2 t3, show (3 : Int32) = nI 3 from rfl, nI_leI (by decide) (ct_le6 _)]
  have p6 : (kd A (cod m a s0 s1 s2 s3) 2 = 3 ∧ 4 < f_differentIn A (g_col (cod m a s0 s1 s2 s3) 2)) ↔ (kN A s2 = 3 ∧ 4 < A 6 (s2 - 1)) := by rw [k2, cod_c2 h, kN_df t2]
  have p7 : (kd A (cod m a s0 s1 s2 s3) 0 = -1 ∨ kd A (cod m a s0 s1 s2 s3) 1 = -1) ↔ (kN A s0 = -1 ∨ kN A s1 = -1) := by rw [k0, k1]
  rw [bN8]
  unfold f_soft
  exact orE (orE (orE (orE (orE (orE (orE (orE (a := 0) rfl (g_bitN p0 (by decide))) (g_bitN p1 (by decide))) (g_bitN p2 (by decide))) (g_bitN p3 (by decide))) (g_bitN p4 (by decide))) (g_bitN p5 (by decide))) (g_bitN p6 (by decide))) (g_bitN p7 (by decide))
def nz (s : Nat) : Nat := if s = 0 then 0 else 1
def sck (s0 s1 s2 s3 : Nat) : Bool := if (s0 = 0 ∨ (s0 ≠ s1 ∧ s0 ≠ s2 ∧ s0 ≠ s3)) ∧ (s1 = 0 ∨ (s1 ≠ s2 ∧ s1 ≠ s3)) ∧ (s2 = 0 ∨ s2 ≠ s3) then decide (fb_ct (fun e => (scN s0 s1 s2 s3).testBit e) 6 = nz s0 + nz s1 + nz s2 + nz s3) else true
theorem sc_nz {s0 s1 s2 s3 : Nat} (h3 : s0 < 7) (h4 : s1 < 7) (h5 : s2 < 7) (h6 : s3 < 7) (hd : dist s0 s1 s2 s3) : fb_ct (fun e => (scN s0 s1 s2 s3).testBit e) 6 = nz s0 + nz s1 + nz s2 + nz s3 := by
  have : ∀ s0, s0 < 7 → ∀ s1, s1 < 7 → ∀ s2, s2 < 7 → ∀ s3, s3 < 7 → sck s0 s1 s2 s3 = true := by decide +kernel
  have e := this s0 h3 s1 h4 s2 h5 s3 h6
  unfold dist at hd
  unfold sck at e
  rw [if_pos hd] at e
  exact of_decide_eq_true e
theorem b2i_nz' {s : Nat} {x : Int32} (h : s < 7) (e : x = xI s) : b2i (0 ≤ x) = nI (nz s) := by
  unfold nz
  by_cases h0 : s = 0
  · rw [b2i_f (fun z => (xI_ge h).mp (e ▸ z) h0), if_pos h0]; rfl
  · rw [b2i_t (e ▸ (xI_ge h).mpr h0), if_neg h0]; rfl
theorem m_soft_N (hL : Link n I A L B) (h : dgt m a s0 s1 s2 s3) (hd : dist s0 s1 s2 s3) (hf : digF f m a s0 s1 s2 s3) : m_soft (nI n) B f = nI (bN (sR (I 2) A m a s0 s1 s2 s3) 8) := by
  obtain ⟨f0, f1, f2, f3, f4, f5⟩ := hf
  obtain ⟨hm, ha, t0, t1, t2, t3⟩ := id h
  have k0 := mof_k (k := 0) hL t0 f2
  have k1 := mof_k (k := 1) hL t1 f3
  have k2 := mof_k (k := 2) hL t2 f4
  have p0 : (f 0 = 0 ∧ f 1 = 0) ↔ (m = 0 ∧ a = 0) := by rw [f0, f1, dg_0 hm, dg_0 ha]
  have p1 : (m_of B f 0 = 3 ∧ m_of B f 1 = 3) ↔ (kN A s0 = 3 ∧ kN A s1 = 3) := by rw [k0, k1]
  have p2 : (m_of B f 2 = 4) ↔ kN A s2 = 4 := by rw [k2]
  have p3 : (f 0 = 2 ∧ f 1 = 0 ∧ 20 < nI n) ↔ (m = 2 ∧ a = 0 ∧ 20 < I 2) := by rw [f0, f1, dg_2 hm, dg_0 ha, hL.2.1]
  have p4 : (f 0 = 2 ∧ ¬ f 1 = 0) ↔ (m = 2 ∧ ¬ a = 0) := by rw [f0, f1, dg_2 hm, dg_0 ha]
  have p5 : (3 ≤ m_nch f) ↔ 3 ≤ fb_ct (fun e => (scN s0 s1 s2 s3).testBit e) 6 := by
    have e : m_nch f = nI ((((0 + nz s0) + nz s1) + nz s2) + nz s3) := addE (addE (addE (addE (a := 0) rfl (b2i_nz' t0 f2)) (b2i_nz' t1 f3)) (b2i_nz' t2 f4)) (b2i_nz' t3 f5)
    rw [e, Nat.zero_add, ← sc_nz t0 t1 t2 t3 hd, show (3 : Int32) = nI 3 from rfl, nI_leI (by decide) (ct_le6 _)]
  have p6 : (m_of B f 2 = 3 ∧ 4 < B 26 (f 4).toNatClampNeg) ↔ (kN A s2 = 3 ∧ 4 < A 6 (s2 - 1)) := by
    rw [k2]
    refine and_congr_right (fun h3 => ?_)
    have h0 : ¬ s2 = 0 := by
      intro z; subst z; rw [show kN A 0 = -1 from if_pos rfl] at h3; exact absurd h3 (by decide)
    rw [f4, xI_cl t2 h0, (hL.2.2.1 (s2 - 1) (by omega)).2.1]
  have p7 : (f 2 < 0 ∨ f 3 < 0) ↔ (kN A s0 = -1 ∨ kN A s1 = -1) := by rw [f2, f3, xI_neg t0, xI_neg t1, kN_m1 hL t0, kN_m1 hL t1]
  rw [bN8, Nat.zero_or]
  unfold m_soft
  exact orE (orE (orE (orE (orE (orE (orE (b2iN p0) (bvN p1 (by decide))) (bvN p2 (by decide))) (bvN p3 (by decide))) (bvN p4 (by decide))) (bvN p5 (by decide))) (bvN p6 (by decide))) (bvN p7 (by decide))
/-- the weights of what is broken -/
def sumW (g : Nat → Int32) (w : Nat → Nat) : Nat → Nat
  | 0 => 0
  | k + 1 => sumW g w k + (if g k = 0 then 0 else w k)
theorem sumW_le {g : Nat → Int32} {w : Nat → Nat} {c : Nat} : ∀ k, (∀ j, j < k → w j ≤ c) → sumW g w k ≤ k * c
  | 0, _ => Nat.zero_le _
  | k + 1, h => by
    have h1 := sumW_le (g := g) k (fun j hj => h j (by omega))
    have h2 : (if g k = 0 then 0 else w k) ≤ c := by
      split
      · exact Nat.zero_le _
      · exact h k (by omega)
    rw [sumW, Nat.succ_mul]; omega
theorem sumW_mono {g g' : Nat → Int32} {w : Nat → Nat} : ∀ k, (∀ j, j < k → g j = 0 ∨ ¬ g' j = 0) → sumW g w k ≤ sumW g' w k
  | 0, _ => Nat.zero_le _
  | k + 1, h => by
    have h1 := sumW_mono (w := w) k (fun j hj => h j (by omega))
    have h2 : (if g k = 0 then 0 else w k) ≤ (if g' k = 0 then 0 else w k) := by
      rcases h k (by omega) with z | z
      · rw [if_pos z]; exact Nat.zero_le _
      · rw [if_neg z]; split
        · exact Nat.zero_le _
        · exact Nat.le_refl _
    rw [sumW, sumW]; omega
theorem bit_g (g : Nat → Int32) {k : Nat} (h : k < 8) : ((nI (bN g 8) >>> (nI k &&& 31)) &&& 1) = 0 ↔ g k = 0 := by
  rw [bit_N (Nat.lt_trans (bN_lt g 8) (by decide)) (by omega), bN_b]
  constructor
  · intro z; exact Classical.byContradiction (fun y => z ⟨h, y⟩)
  · intro z y; exact y.2 z
theorem bit_01 {N e : Nat} (hN : N < 2 ^ 31) (he : e < 31) : ((nI N >>> (nI e &&& 31)) &&& 1) = 0 ∨ ((nI N >>> (nI e &&& 31)) &&& 1) = 1 := by
  rw [pk_shrN (k := e) hN _ (s_l e (by omega)), pk_andN (k := 1) (Nat.lt_of_le_of_lt (Nat.div_le_self _ _) (by omega)) (by decide)]
  have h2 : N / 2 ^ e % 2 ^ 1 = N / 2 ^ e % 2 := rfl
  rw [h2]
  rcases (show N / 2 ^ e % 2 = 0 ∨ N / 2 ^ e % 2 = 1 by omega) with z | z <;> rw [z]
  · exact Or.inl rfl
  · exact Or.inr rfl
theorem addW_N {W : Nat → Int32} {w : Nat → Nat} (hw : ∀ k, k < 8 → W k = nI (w k)) (g : Nat → Int32) (X : Nat) : ∀ j, j ≤ 8 → addW W (nI (bN g 8)) j (nI (X + sumW g w (8 - j))) = nI (X + sumW g w 8)
  | 0, _ => rfl
  | j + 1, h => by
    rw [addW, ← addW_N hw g X j (by omega)]
    congr 1
    have e : 8 - j = (7 - j) + 1 := by omega
    have e2 : 8 - (j + 1) = 7 - j := by omega
    rw [e, e2, sumW]
    by_cases hg : g (7 - j) = 0
    · rw [if_pos ((bit_g g (by omega)).mpr hg), if_pos hg]; rfl
    · rw [if_neg (fun z => hg ((bit_g g (by omega)).mp z)), if_neg hg, hw _ (by omega), nI_add, Nat.add_assoc]
theorem addM_N {W : Nat → Int32} {w : Nat → Nat} (hw : ∀ k, k < 8 → W k = nI (w k)) (g : Nat → Int32) (X : Nat) : ∀ j k, k + j = 8 → addM W (nI (bN g 8)) j k (nI (X + sumW g w k)) = nI (X + sumW g w 8)
  | 0, k, h => by rw [show k = 8 by omega]; rfl
  | j + 1, k, h => by
    rw [addM, ← addM_N hw g X j (k + 1) (by omega)]
    congr 1
    rw [sumW]
    by_cases hg : g k = 0
    · have hz := (bit_g g (by omega)).mpr hg
      rw [if_neg (by rw [hz]; decide), if_pos hg]; exact Int32.add_zero _
    · have hz : ¬ _ = (0 : Int32) := fun z => hg ((bit_g g (k := k) (by omega)).mp z)
      rw [if_pos ((bit_01 (Nat.lt_trans (bN_lt g 8) (by decide)) (by omega)).resolve_left hz), if_neg hg, hw _ (by omega), nI_add, Nat.add_assoc]
/-- the channels' costs -/
def b0N (x : Int32) : Nat := if x = 3 ∨ x = 4 then 1 else 0
def b1N (x : Int32) : Nat := if x = 2 ∨ x = 3 then 2 else 0
def b2N (x : Int32) : Nat := if x = 2 then 6 else if x = 3 then 2 else if x = 4 then 4 else 0
def b3N (x : Int32) : Nat := if x = 4 then 3 else 0
theorem cc_N {x : Int32} (h : x = -1 ∨ x = 0 ∨ x = 1 ∨ x = 2 ∨ x = 3 ∨ x = 4) : f_cc x 0 = nI (b0N x) ∧ f_cc x 1 = nI (b1N x) ∧ f_cc x 2 = nI (b2N x) ∧ f_cc x 3 = nI (b3N x) := by
  rcases h with rfl | rfl | rfl | rfl | rfl | rfl <;> decide +kernel
theorem b_le (x : Int32) : b0N x ≤ 1 ∧ b1N x ≤ 2 ∧ b2N x ≤ 6 ∧ b3N x ≤ 3 := by
  unfold b0N b1N b2N b3N
  refine ⟨?_, ?_, ?_, ?_⟩ <;> (repeat' split) <;> decide
/-- the gaps -/
def gz (f : Nat → Int32) (r : Nat) : Int32 := b2i (f r = -10000)
theorem gap_N (f : Nat → Int32) : ∀ n, n ≤ 40 → stGap f n = lN (bN (gz f) n)
  | 0, _ => rfl
  | n + 1, h => by
    rw [stGap, bN, gap_N f n (by omega)]
    by_cases hz : f n = -10000
    · rw [if_pos hz, if_neg (show ¬ gz f n = 0 from b2i_nz.mpr hz), show (1 : Int64) = lN 1 from rfl, wb_shl 1 (by omega), fb_orL, Nat.one_mul]
    · rw [if_neg hz, if_pos (show gz f n = 0 from b2i_z.mpr hz), Nat.or_zero]
def GN (A : Nat → Nat → Int32) (n s : Nat) : Nat := if s = 0 then 0 else bN (gz (cv A (s - 1))) n
theorem GN_lt (A : Nat → Nat → Int32) (n s : Nat) : GN A n s < 2 ^ n := by
  unfold GN; split
  · exact Nat.two_pow_pos _
  · exact bN_lt _ _
theorem GN_b {A : Nat → Nat → Int32} {n s r : Nat} : (GN A n s).testBit r = true ↔ ¬ s = 0 ∧ r < n ∧ cv A (s - 1) r = -10000 := by
  unfold GN
  by_cases h0 : s = 0
  · rw [if_pos h0, Nat.zero_testBit]
    exact ⟨fun z => (by cases z), fun z => absurd h0 z.1⟩
  · rw [if_neg h0, bN_b]
    refine ⟨fun z => ⟨h0, z.1, b2i_nz.mp z.2⟩, fun z => ⟨z.2.1, b2i_nz.mpr z.2.2⟩⟩
def GA (A : Nat → Nat → Int32) (n s0 s1 s2 s3 : Nat) : Nat := ((((0 ||| GN A n s0) ||| GN A n s1) ||| GN A n s2) ||| GN A n s3)
theorem GA_b {A : Nat → Nat → Int32} {n s0 s1 s2 s3 r : Nat} : (GA A n s0 s1 s2 s3).testBit r = true ↔ (((GN A n s0).testBit r = true ∨ (GN A n s1).testBit r = true) ∨ (GN A n s2).testBit r = true) ∨ (GN A n s3).testBit r = true := by
  unfold GA
  rw [Nat.testBit_or, Nat.testBit_or, Nat.testBit_or, Nat.zero_or]
  simp only [Bool.or_eq_true]
theorem GA_lt (A : Nat → Nat → Int32) (n s0 s1 s2 s3 : Nat) : GA A n s0 s1 s2 s3 < 2 ^ n := Nat.or_lt_two_pow (Nat.or_lt_two_pow (Nat.or_lt_two_pow (Nat.or_lt_two_pow (Nat.two_pow_pos n) (GN_lt A n s0)) (GN_lt A n s1)) (GN_lt A n s2)) (GN_lt A n s3)
def gcN (A : Nat → Nat → Int32) (n s0 s1 s2 s3 : Nat) : Nat := fb_ct (fun r => (GA A n s0 s1 s2 s3).testBit r) n
theorem gaps_x (hL : Link n I A L B) {s : Nat} (hs : s < 7) : f_gapsIn L (xI s) = lN (GN A n s) := by
  unfold f_gapsIn GN
  by_cases h0 : s = 0
  · rw [if_neg (fun z => (xI_col hs).mp z h0), if_pos h0]; rfl
  · rw [if_pos ((xI_col hs).mpr h0), if_neg h0, xI_cl hs h0, (hL.2.2.1 (s - 1) (by omega)).2.2.2.2, gap_N _ _ hL.1]
theorem gap_c (hL : Link n I A L B) (h : dgt m a s0 s1 s2 s3) : g_lc (f_gap L (cod m a s0 s1 s2 s3)) = nI (gcN A n s0 s1 s2 s3) := by
  obtain ⟨-, -, t0, t1, t2, t3⟩ := id h
  have e : f_gap L (cod m a s0 s1 s2 s3) = lN (GA A n s0 s1 s2 s3) := by
    unfold f_gap
    rw [cod_c0 h, cod_c1 h, cod_c2 h, cod_c3 h]
    exact orEL (orEL (orEL (orEL (a := 0) rfl (gaps_x hL t0)) (gaps_x hL t1)) (gaps_x hL t2)) (gaps_x hL t3)
  have hl := GA_lt A n s0 s1 s2 s3
  have p : 2 ^ n ≤ 2 ^ 40 := Nat.pow_le_pow_right (by decide) hL.1
  rw [e, g_lc_N (Nat.lt_of_lt_of_le hl p), ct_cut (m := n) hL.1 (fun r hr => Nat.testBit_lt_two_pow (Nat.lt_of_lt_of_le hl (Nat.pow_le_pow_right (by decide) hr)))]
  rfl
theorem gk_x (hL : Link n I A L B) {k s r : Nat} (hs : s < 7) (hf : f (2 + k) = xI s) (hr : r < n) : m_gk B f r k ↔ (GN A n s).testBit r = true := by
  unfold m_gk
  rw [GN_b, hf, xI_ge hs]
  constructor
  · rintro ⟨h0, h1⟩
    rw [xI_cl hs h0] at h1
    exact ⟨h0, hr, (hL.2.2.2.1 (s - 1) r (by omega) hr).trans h1⟩
  · rintro ⟨h0, -, h1⟩
    rw [xI_cl hs h0]
    exact ⟨h0, (hL.2.2.2.1 (s - 1) r (by omega) hr).symm.trans h1⟩
theorem m_gap_N (hL : Link n I A L B) (h : dgt m a s0 s1 s2 s3) (hf : digF f m a s0 s1 s2 s3) : ∀ r, r ≤ n → m_gap B f r = nI (fb_ct (fun e => (GA A n s0 s1 s2 s3).testBit e) r)
  | 0, _ => rfl
  | r + 1, hr => by
    have ih := m_gap_N hL h hf r (by omega)
    obtain ⟨-, -, f2, f3, f4, f5⟩ := hf
    obtain ⟨-, -, t0, t1, t2, t3⟩ := h
    have q : m_gp B f r ↔ (GA A n s0 s1 s2 s3).testBit r = true := by
      unfold m_gp
      rw [GA_b, gk_x (k := 0) hL t0 f2 (by omega), gk_x (k := 1) hL t1 f3 (by omega), gk_x (k := 2) hL t2 f4 (by omega), gk_x (k := 3) hL t3 f5 (by omega)]
    rw [m_gap, fb_ct_succ, ih]
    by_cases hq : (GA A n s0 s1 s2 s3).testBit r = true
    · rw [if_pos (q.mpr hq), if_pos hq]; exact nI_1 _
    · rw [if_neg (fun z => hq (q.mp z)), if_neg hq]; exact Int32.add_zero _
/-- the cost as a number -/
def wN (A : Nat → Nat → Int32) (k : Nat) : Nat := (A 11 k).toNatClampNeg
def bsN (A : Nat → Nat → Int32) (n s0 s1 s2 s3 : Nat) : Nat := b0N (kN A s0) + b1N (kN A s1) + b2N (kN A s2) + b3N (kN A s3) + gcN A n s0 s1 s2 s3 / 5
def coN (w : Int32) (A : Nat → Nat → Int32) (n m a s0 s1 s2 s3 : Nat) : Nat := bsN A n s0 s1 s2 s3 + sumW (sR w A m a s0 s1 s2 s3) (wN A) 8
theorem wN_e (hL : Link n I A L B) {k : Nat} (hk : k < 8) : A 11 k = nI (wN A k) ∧ B 24 k = nI (wN A k) ∧ wN A k ≤ 99 := by
  obtain ⟨e, h0, h99⟩ := hL.2.2.2.2.2.2 k hk
  obtain ⟨j, hj, ej⟩ := nI_of (i_nlt.mpr h0)
  have : wN A k = j := by unfold wN; rw [e, ej]; exact nI_clamp hj
  rw [this, e]
  refine ⟨ej, ej, ?_⟩
  rw [ej, show (99 : Int32) = nI 99 from rfl, nI_leI hj (by decide)] at h99
  exact h99
theorem gc_le (hn : n ≤ 40) : gcN A n s0 s1 s2 s3 ≤ 40 := Nat.le_trans (fb_ct_le _ n) hn
theorem coN_lt (hL : Link n I A L B) (w : Int32) : coN w A n m a s0 s1 s2 s3 < 1048576 := by
  unfold coN bsN
  have h1 := gc_le (A := A) (s0 := s0) (s1 := s1) (s2 := s2) (s3 := s3) hL.1
  have h2 := b_le (kN A s0); have h3 := b_le (kN A s1); have h4 := b_le (kN A s2); have h5 := b_le (kN A s3)
  have h6 := sumW_le (g := sR w A m a s0 s1 s2 s3) (w := wN A) (c := 99) 8 (fun j hj => (wN_e hL hj).2.2)
  omega
theorem co_N (hL : Link n I A L B) (h : dgt m a s0 s1 s2 s3) : f_cost I A L (cod m a s0 s1 s2 s3) = nI (coN (I 2) A n m a s0 s1 s2 s3) := by
  obtain ⟨hm, ha, t0, t1, t2, t3⟩ := id h
  obtain ⟨k0, k1, k2, k3⟩ := kd_c (A := A) h
  unfold f_cost
  rw [soft_N h, gap_c hL h, show (5 : Int32) = nI 5 from rfl, pk_div (a := gcN A n s0 s1 s2 s3) (d := 5) (by have := gc_le (A := A) (s0 := s0) (s1 := s1) (s2 := s2) (s3 := s3) hL.1; omega) (by decide) (by decide)]
  have eb : f_base A (cod m a s0 s1 s2 s3) = nI ((((0 + b0N (kN A s0)) + b1N (kN A s1)) + b2N (kN A s2)) + b3N (kN A s3)) := by
    unfold f_base
    rw [k0, k1, k2, k3]
    exact addE (addE (addE (addE (a := 0) rfl (cc_N (kN_r hL t0)).1) (cc_N (kN_r hL t1)).2.1) (cc_N (kN_r hL t2)).2.2.1) (cc_N (kN_r hL t3)).2.2.2
  rw [eb, nI_add]
  have := addW_N (W := A 11) (w := wN A) (fun k hk => (wN_e hL hk).1) (sR (I 2) A m a s0 s1 s2 s3) (bsN A n s0 s1 s2 s3) 8 (Nat.le_refl 8)
  unfold coN
  rw [← this]
  congr 2
  show _ = bsN A n s0 s1 s2 s3 + 0
  unfold bsN; omega
theorem m_co_N (hL : Link n I A L B) (h : dgt m a s0 s1 s2 s3) (hd : dist s0 s1 s2 s3) (hf : digF f m a s0 s1 s2 s3) : m_cost n B f = nI (coN (I 2) A n m a s0 s1 s2 s3) := by
  obtain ⟨f0, f1, f2, f3, f4, f5⟩ := id hf
  obtain ⟨hm, ha, t0, t1, t2, t3⟩ := id h
  have k0 := mof_k (k := 0) hL t0 f2
  have k1 := mof_k (k := 1) hL t1 f3
  have k2 := mof_k (k := 2) hL t2 f4
  have k3 := mof_k (k := 3) hL t3 f5
  have bvE : ∀ {P : Prop} [Decidable P] (v : Nat), bv P (nI v) = nI (if P then v else 0) := by
    intro P _ v; unfold bv; split <;> rfl
  have biE : ∀ {P : Prop} [Decidable P], b2i P = nI (if P then 1 else 0) := by
    intro P _; unfold b2i; split <;> rfl
  have eb : m_base B f n = nI ((((gcN A n s0 s1 s2 s3 / 5 + b0N (kN A s0)) + b1N (kN A s1)) + b2N (kN A s2)) + b3N (kN A s3)) := by
    unfold m_base
    rw [m_gap_N hL h hf n (Nat.le_refl n), show (5 : Int32) = nI 5 from rfl, pk_div (d := 5) (by have := gc_le (A := A) (s0 := s0) (s1 := s1) (s2 := s2) (s3 := s3) hL.1; unfold gcN at this; omega) (by decide) (by decide)]
    refine addE (addE (addE (addE rfl ?_) ?_) ?_) ?_
    · rw [biE]; unfold b0N; rw [k0]
    · rw [show (2 : Int32) = nI 2 from rfl, bvE]; unfold b1N; rw [k1]; rfl
    · unfold b2N; rw [k2]; (repeat' split) <;> rfl
    · rw [show (3 : Int32) = nI 3 from rfl, bvE]; unfold b3N; rw [k3]
  unfold m_cost
  rw [m_soft_N hL h hd hf, eb]
  have := addM_N (W := B 24) (w := wN A) (fun k hk => (wN_e hL hk).2.1) (sR (I 2) A m a s0 s1 s2 s3) (bsN A n s0 s1 s2 s3) 8 0 rfl
  unfold coN
  rw [← this]
  congr 2
  show _ = bsN A n s0 s1 s2 s3 + 0
  unfold bsN; omega
/-- WHAT A CHART COSTS -/
theorem cost_eq (hL : Link n I A L B) (h : dgt m a s0 s1 s2 s3) (hd : dist s0 s1 s2 s3) (hf : digF f m a s0 s1 s2 s3) : m_cost n B f = f_cost I A L (cod m a s0 s1 s2 s3) := by
  rw [co_N hL h, m_co_N hL h hd hf]
theorem coOK_L (hL : Link n I A L B) : coOK (f_cost I A L) := fun t ht => ⟨_, coN_lt hL (I 2), co_N hL (dgt_t ht)⟩
end COST
