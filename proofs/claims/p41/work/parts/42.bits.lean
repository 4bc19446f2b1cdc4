/-! counting bits -/
theorem and256 (x u : Nat) {y v : Nat} (hy : y < 256) (hv : v < 256) : (256 * x + y) &&& (256 * u + v) = 256 * (x &&& u) + (y &&& v) := by
  have h1 : ((256 * x + y) &&& (256 * u + v)) / 2 ^ 8 = x &&& u := by
    rw [Nat.and_div_two_pow, show (256 * x + y) / 2 ^ 8 = x by omega, show (256 * u + v) / 2 ^ 8 = u by omega]
  have h2 : ((256 * x + y) &&& (256 * u + v)) % 2 ^ 8 = y &&& v := by
    rw [Nat.and_mod_two_pow, show (256 * x + y) % 2 ^ 8 = y by omega, show (256 * u + v) % 2 ^ 8 = v by omega]
  have h3 := Nat.div_add_mod ((256 * x + y) &&& (256 * u + v)) (2 ^ 8)
  rw [h1, h2] at h3
  exact h3.symm
def mkB (c : Nat) : Nat → Nat
  | 0 => 0
  | j + 1 => 256 * mkB c j + c
def pF1 (j N : Nat) : Nat := N - (N / 2 &&& mkB 85 j)
def pF2 (j N : Nat) : Nat := (N &&& mkB 51 j) + (N / 4 &&& mkB 51 j)
def pF3 (j N : Nat) : Nat := (N + N / 16) &&& mkB 15 j
def pcB (b : Nat) : Nat := pF3 1 (pF2 1 (pF1 1 b))
theorem pF1_s (j q b : Nat) (hb : b < 256) : pF1 (j + 1) (256 * q + b) = 256 * pF1 j q + pF1 1 b ∧ pF1 1 b < 256 := by
  have h0 : (b / 2 + 128 * (q % 2)) &&& 85 = b / 2 &&& 85 ∧ b / 2 &&& 85 ≤ b := by
    have : ∀ r, r < 2 → ∀ b, b < 256 → (b / 2 + 128 * r) &&& 85 = b / 2 &&& 85 ∧ b / 2 &&& 85 ≤ b := by decide +kernel
    exact this (q % 2) (Nat.mod_lt _ (by decide)) b hb
  have h1 : (256 * q + b) / 2 = 256 * (q / 2) + (b / 2 + 128 * (q % 2)) := by omega
  have h2 : q / 2 &&& mkB 85 j ≤ q := Nat.le_trans Nat.and_le_left (Nat.div_le_self _ _)
  have h3 : mkB 85 1 = 85 := rfl
  unfold pF1
  rw [h1, show mkB 85 (j + 1) = 256 * mkB 85 j + 85 from rfl, and256 _ _ (by omega) (by decide), h0.1, h3]
  have := h0.2
  omega
theorem pF2_s (j q b : Nat) (hb : b < 256) : pF2 (j + 1) (256 * q + b) = 256 * pF2 j q + pF2 1 b ∧ pF2 1 b < 256 := by
  have h0 : (b / 4 + 64 * (q % 4)) &&& 51 = b / 4 &&& 51 := by
    have : ∀ r, r < 4 → ∀ b, b < 256 → (b / 4 + 64 * r) &&& 51 = b / 4 &&& 51 := by decide +kernel
    exact this (q % 4) (Nat.mod_lt _ (by decide)) b hb
  have h1 : (256 * q + b) / 4 = 256 * (q / 4) + (b / 4 + 64 * (q % 4)) := by omega
  have h3 : mkB 51 1 = 51 := rfl
  have h4 : b &&& 51 ≤ 51 := Nat.and_le_right
  have h5 : b / 4 &&& 51 ≤ 51 := Nat.and_le_right
  unfold pF2
  rw [h1, show mkB 51 (j + 1) = 256 * mkB 51 j + 51 from rfl, and256 _ _ hb (by decide), and256 _ _ (by omega) (by decide), h0, h3]
  omega
theorem pF3_s (j q b : Nat) (hb : b ≤ 68) (hq : q % 16 ≤ 4) : pF3 (j + 1) (256 * q + b) = 256 * pF3 j q + pF3 1 b := by
  have h0 : (b + b / 16 + 16 * (q % 16)) &&& 15 = (b + b / 16) &&& 15 := by
    have : ∀ r, r < 5 → ∀ b, b < 69 → (b + b / 16 + 16 * r) &&& 15 = (b + b / 16) &&& 15 := by decide +kernel
    exact this (q % 16) (by omega) b (by omega)
  have h1 : (256 * q + b) + (256 * q + b) / 16 = 256 * (q + q / 16) + (b + b / 16 + 16 * (q % 16)) := by omega
  have h3 : mkB 15 1 = 15 := rfl
  unfold pF3
  rw [h1, show mkB 15 (j + 1) = 256 * mkB 15 j + 15 from rfl, and256 _ _ (by omega) (by decide), h0, h3]
theorem pcB_f (b : Nat) (hb : b < 256) : pF2 1 (pF1 1 b) ≤ 68 ∧ pF2 1 (pF1 1 b) % 16 ≤ 4 ∧ pcB b ≤ 8 ∧ pcB b = fb_ct (fun e => b.testBit e) 8 := by
  have : ∀ b, b < 256 → pF2 1 (pF1 1 b) ≤ 68 ∧ pF2 1 (pF1 1 b) % 16 ≤ 4 ∧ pcB b ≤ 8 ∧ pcB b = fb_ct (fun e => b.testBit e) 8 := by decide +kernel
  exact this b hb
def pP (j N : Nat) : Nat := pF3 j (pF2 j (pF1 j N))
theorem pP_0 : pP 0 0 = 0 := rfl
theorem p2_low (j N : Nat) (h : N = 0 ∨ 0 < j) : pF2 j (pF1 j N) % 16 ≤ 4 := by
  rcases h with h | h
  · subst h; simp [pF1, pF2]
  · obtain ⟨k, rfl⟩ : ∃ k, j = k + 1 := ⟨j - 1, by omega⟩
    have hb : N % 256 < 256 := Nat.mod_lt _ (by decide)
    have e : N = 256 * (N / 256) + N % 256 := by omega
    rw [e, (pF1_s k _ _ hb).1, (pF2_s k _ _ (pF1_s k (N / 256) _ hb).2).1]
    have := (pcB_f _ hb).2.1
    omega
theorem pP_s (j N : Nat) (h : N / 256 = 0 ∨ 0 < j) : pP (j + 1) N = 256 * pP j (N / 256) + pcB (N % 256) := by
  have hb : N % 256 < 256 := Nat.mod_lt _ (by decide)
  have e : N = 256 * (N / 256) + N % 256 := by omega
  have h1 := pF1_s j (N / 256) (N % 256) hb
  have h2 := pF2_s j (pF1 j (N / 256)) (pF1 1 (N % 256)) h1.2
  have h3 := pF3_s j (pF2 j (pF1 j (N / 256))) (pF2 1 (pF1 1 (N % 256))) (pcB_f _ hb).1 (p2_low j _ h)
  show pF3 (j + 1) (pF2 (j + 1) (pF1 (j + 1) N)) = _
  rw [show pF1 (j + 1) N = 256 * pF1 j (N / 256) + pF1 1 (N % 256) from by rw [← h1.1, ← e], h2.1, h3]
  rfl
theorem ct_s (N w : Nat) : fb_ct (fun e => N.testBit e) (8 + w) = pcB (N % 256) + fb_ct (fun e => (N / 256).testBit e) w := by
  have hb : N % 256 < 256 := Nat.mod_lt _ (by decide)
  rw [fb_ct_split, (pcB_f _ hb).2.2.2]
  congr 1
  · apply fb_ct_cong
    intro k hk
    show N.testBit k = (N % 2 ^ 8).testBit k
    rw [Nat.testBit_mod_two_pow]; simp [hk]
  · apply fb_ct_cong
    intro k _
    show N.testBit (8 + k) = (N / 2 ^ 8).testBit k
    rw [Nat.testBit_div_two_pow, Nat.add_comm]
/-- Java's Integer.bitCount -/
theorem g_bc_N {N : Nat} (h : N < 2 ^ 32) : g_bc (nI N) = nI (fb_ct (fun e => N.testBit e) 32) := by
  have a1 : N / 2 &&& 1431655765 ≤ N := Nat.le_trans Nat.and_le_left (Nat.div_le_self _ _)
  have e1 : g_b1 (nI N) = nI (pF1 4 N) := by
    unfold g_b1
    rw [pk_ushrN h _ 1 (by decide), show (1431655765 : Int32) = nI 1431655765 from rfl, fa_and, pk_sub a1]; rfl
  have l1 : pF1 4 N < 2 ^ 32 := Nat.lt_of_le_of_lt (Nat.sub_le _ _) h
  have e2 : g_b2 (nI (pF1 4 N)) = nI (pF2 4 (pF1 4 N)) := by
    unfold g_b2
    rw [pk_ushrN l1 _ 2 (by decide), show (858993459 : Int32) = nI 858993459 from rfl, fa_and, fa_and, nI_add]; rfl
  have l2 : pF2 4 (pF1 4 N) < 2 ^ 31 := by
    have z1 : pF1 4 N &&& 858993459 ≤ 858993459 := Nat.and_le_right
    have z2 : pF1 4 N / 4 &&& 858993459 ≤ 858993459 := Nat.and_le_right
    show (pF1 4 N &&& 858993459) + (pF1 4 N / 4 &&& 858993459) < 2 ^ 31
    omega
  have e3 : g_b3 (nI (pF2 4 (pF1 4 N))) = nI (pP 4 N) := by
    unfold g_b3
    rw [pk_ushrN (by omega) _ 4 (by decide), nI_add, show (252645135 : Int32) = nI 252645135 from rfl, fa_and]; rfl
  have y0 := pP_s 3 N (Or.inr (by decide))
  have y1 := pP_s 2 (N / 256) (Or.inr (by decide))
  have y2 := pP_s 1 (N / 256 / 256) (Or.inr (by decide))
  have y3 := pP_s 0 (N / 256 / 256 / 256) (Or.inl (by omega))
  rw [show N / 256 / 256 / 256 / 256 = 0 by omega, pP_0] at y3
  have c0 := ct_s N 24
  have c1 := ct_s (N / 256) 16
  have c2 := ct_s (N / 256 / 256) 8
  have c3 := ct_s (N / 256 / 256 / 256) 0
  have b0 := (pcB_f (N % 256) (Nat.mod_lt _ (by decide))).2.2.1
  have b1 := (pcB_f (N / 256 % 256) (Nat.mod_lt _ (by decide))).2.2.1
  have b2 := (pcB_f (N / 256 / 256 % 256) (Nat.mod_lt _ (by decide))).2.2.1
  have b3 := (pcB_f (N / 256 / 256 / 256 % 256) (Nat.mod_lt _ (by decide))).2.2.1
  have f0 : fb_ct (fun e => (N / 256 / 256 / 256 / 256).testBit e) 0 = 0 := rfl
  rw [f0] at c3
  simp only [Nat.reduceAdd] at c0 c1 c2 c3 y0 y1 y2 y3
  generalize pcB (N % 256) = p0 at y0 c0 b0
  generalize pcB (N / 256 % 256) = p1 at y1 c1 b1
  generalize pcB (N / 256 / 256 % 256) = p2 at y2 c2 b2
  generalize pcB (N / 256 / 256 / 256 % 256) = p3 at y3 c3 b3
  have y : pP 4 N = p0 + 256 * p1 + 65536 * p2 + 16777216 * p3 := by omega
  have c : fb_ct (fun e => N.testBit e) 32 = p0 + p1 + p2 + p3 := by omega
  unfold g_bc
  rw [e1, e2, e3]
  unfold g_b5 g_b4
  rw [pk_ushrN (by omega) _ 8 (by decide), nI_add, pk_ushrN (by omega) _ 16 (by decide), nI_add, pk_andN (k := 6) (by omega) (by decide)]
  congr 1
  rw [c]
  have j1 : pP 4 N / 2 ^ 8 = p1 + 256 * p2 + 65536 * p3 := by omega
  rw [j1]
  have j2 : (pP 4 N + (p1 + 256 * p2 + 65536 * p3)) / 2 ^ 16 = p2 + p3 + 256 * p3 := by omega
  rw [j2, y]
  omega
/-- Java's Long.bitCount, of 40 bits -/
theorem g_lc_N {N : Nat} (h : N < 2 ^ 40) : g_lc (lN N) = nI (fb_ct (fun e => N.testBit e) 40) := by
  have a1 : N / 2 &&& 6148914691236517205 ≤ N := Nat.le_trans Nat.and_le_left (Nat.div_le_self _ _)
  have e1 : g_l1 (lN N) = lN (pF1 8 N) := by
    unfold g_l1 ush
    rw [show (1 : Int32) = nI 1 from rfl, wb_shr (by omega) (by decide), show (6148914691236517205 : Int64) = lN 6148914691236517205 from rfl, fb_andL, lN_sub a1]; rfl
  have l1 : pF1 8 N < 2 ^ 40 := Nat.lt_of_le_of_lt (Nat.sub_le _ _) h
  have e2 : g_l2 (lN (pF1 8 N)) = lN (pF2 8 (pF1 8 N)) := by
    unfold g_l2 ush
    rw [show (2 : Int32) = nI 2 from rfl, wb_shr (by omega) (by decide), show (3689348814741910323 : Int64) = lN 3689348814741910323 from rfl, fb_andL, fb_andL, lN_add]; rfl
  have l2 : pF2 8 (pF1 8 N) < 2 ^ 42 := by
    have z1 : pF1 8 N &&& 3689348814741910323 ≤ pF1 8 N := Nat.and_le_left
    have z2 : pF1 8 N / 4 &&& 3689348814741910323 ≤ pF1 8 N / 4 := Nat.and_le_left
    show (pF1 8 N &&& 3689348814741910323) + (pF1 8 N / 4 &&& 3689348814741910323) < 2 ^ 42
    omega
  have e3 : g_l3 (lN (pF2 8 (pF1 8 N))) = lN (pP 8 N) := by
    unfold g_l3 ush
    rw [show (4 : Int32) = nI 4 from rfl, wb_shr (by omega) (by decide), lN_add, show (1085102592571150095 : Int64) = lN 1085102592571150095 from rfl, fb_andL]; rfl
  have y0 := pP_s 7 N (Or.inr (by decide))
  have y1 := pP_s 6 (N / 256) (Or.inr (by decide))
  have y2 := pP_s 5 (N / 256 / 256) (Or.inr (by decide))
  have y3 := pP_s 4 (N / 256 / 256 / 256) (Or.inr (by decide))
  have y4 := pP_s 3 (N / 256 / 256 / 256 / 256) (Or.inr (by decide))
  rw [show N / 256 / 256 / 256 / 256 / 256 = 0 by omega, show pP 3 0 = 0 from rfl] at y4
  have c0 := ct_s N 32
  have c1 := ct_s (N / 256) 24
  have c2 := ct_s (N / 256 / 256) 16
  have c3 := ct_s (N / 256 / 256 / 256) 8
  have c4 := ct_s (N / 256 / 256 / 256 / 256) 0
  have b0 := (pcB_f (N % 256) (Nat.mod_lt _ (by decide))).2.2.1
  have b1 := (pcB_f (N / 256 % 256) (Nat.mod_lt _ (by decide))).2.2.1
  have b2 := (pcB_f (N / 256 / 256 % 256) (Nat.mod_lt _ (by decide))).2.2.1
  have b3 := (pcB_f (N / 256 / 256 / 256 % 256) (Nat.mod_lt _ (by decide))).2.2.1
  have b4 := (pcB_f (N / 256 / 256 / 256 / 256 % 256) (Nat.mod_lt _ (by decide))).2.2.1
  have f0 : fb_ct (fun e => (N / 256 / 256 / 256 / 256 / 256).testBit e) 0 = 0 := rfl
  rw [f0] at c4
  simp only [Nat.reduceAdd] at c0 c1 c2 c3 c4 y0 y1 y2 y3 y4
  generalize pcB (N % 256) = p0 at y0 c0 b0
  generalize pcB (N / 256 % 256) = p1 at y1 c1 b1
  generalize pcB (N / 256 / 256 % 256) = p2 at y2 c2 b2
  generalize pcB (N / 256 / 256 / 256 % 256) = p3 at y3 c3 b3
  generalize pcB (N / 256 / 256 / 256 / 256 % 256) = p4 at y4 c4 b4
  have y : pP 8 N = p0 + 256 * p1 + 65536 * p2 + 16777216 * p3 + 4294967296 * p4 := by omega
  have c : fb_ct (fun e => N.testBit e) 40 = p0 + p1 + p2 + p3 + p4 := by omega
  unfold g_lc
  rw [e1, e2, e3]
  unfold g_l6 g_l5 g_l4 ush
  rw [show (8 : Int32) = nI 8 from rfl, wb_shr (by omega) (by decide), lN_add, show (16 : Int32) = nI 16 from rfl, wb_shr (by omega) (by decide), lN_add, show (32 : Int32) = nI 32 from rfl, wb_shr (by omega) (by decide), lN_add]
  rw [show ∀ z : Nat, (lN z).toInt32 = nI z from fun z => Int64.toInt32_ofNat']
  have j1 : pP 8 N / 2 ^ 8 = p1 + 256 * p2 + 65536 * p3 + 16777216 * p4 := by omega
  rw [j1]
  have j2 : (pP 8 N + (p1 + 256 * p2 + 65536 * p3 + 16777216 * p4)) / 2 ^ 16 = p2 + p3 + 256 * (p3 + p4) + 65536 * p4 := by omega
  rw [j2]
  have j3 : (pP 8 N + (p1 + 256 * p2 + 65536 * p3 + 16777216 * p4) + (p2 + p3 + 256 * (p3 + p4) + 65536 * p4)) / 2 ^ 32 = p4 := by omega
  rw [j3, y, c, show (127 : Int32) = nI (2 ^ 7 - 1) from rfl, fa_mask]
  congr 1
  omega
