/-! charts as numbers -/
def mkN (m : Nat) : Nat := if m = 0 then 98 else if m = 1 then 108 else 112
def cdN (m a s0 s1 s2 s3 : Nat) : Nat := mkN m * 16384 + (a * 4096 + (s0 * 512 + (s1 * 64 + (s2 * 8 + s3))))
def dgt (m a s0 s1 s2 s3 : Nat) : Prop := m < 3 ∧ a < 3 ∧ s0 < 7 ∧ s1 < 7 ∧ s2 < 7 ∧ s3 < 7
theorem mkN_r (m : Nat) : mkN m = 98 ∨ mkN m = 108 ∨ mkN m = 112 := by unfold mkN; (repeat' split) <;> simp
theorem cdN_lt {m a s0 s1 s2 s3 : Nat} (h : dgt m a s0 s1 s2 s3) : cdN m a s0 s1 s2 s3 < 16777216 := by
  obtain ⟨h1, h2, h3, h4, h5, h6⟩ := h
  unfold cdN; rcases mkN_r m with z | z | z <;> rw [z] <;> omega
theorem cdN_d {m a s0 s1 s2 s3 : Nat} (h : dgt m a s0 s1 s2 s3) : cdN m a s0 s1 s2 s3 / 16384 = mkN m ∧ cdN m a s0 s1 s2 s3 / 4096 % 4 = a ∧ cdN m a s0 s1 s2 s3 / 512 % 8 = s0 ∧ cdN m a s0 s1 s2 s3 / 64 % 8 = s1 ∧ cdN m a s0 s1 s2 s3 / 8 % 8 = s2 ∧ cdN m a s0 s1 s2 s3 % 8 = s3 := by
  obtain ⟨h1, h2, h3, h4, h5, h6⟩ := h
  unfold cdN
  refine ⟨?_, ?_, ?_, ?_, ?_, ?_⟩ <;> (rcases mkN_r m with z | z | z <;> rw [z] <;> omega)
def cod (m a s0 s1 s2 s3 : Nat) : Int32 := nI (cdN m a s0 s1 s2 s3)
theorem gN_mark {N : Nat} (h : N < 16777216) : g_mark (nI N) = nI (N / 16384 % 128) := by
  unfold g_mark
  rw [pk_shrN (k := 14) (by omega) _ (by decide), pk_andN (k := 7) (by omega) (by decide), pk_char, pk_tn (by omega)]
  congr 1
  omega
theorem gN_agg {N : Nat} (h : N < 16777216) : g_agg (nI N) = nI (N / 4096 % 4) := by
  unfold g_agg
  rw [pk_shrN (k := 12) (by omega) _ (by decide), pk_andN (k := 2) (by omega) (by decide)]
theorem gN_c0 {N : Nat} (h : N < 16777216) : g_col (nI N) 0 = xI (N / 512 % 8) := by
  unfold g_col
  rw [pk_shrN (k := 9) (by omega) _ (by decide), pk_andN (k := 3) (by omega) (by decide)]; rfl
theorem gN_c1 {N : Nat} (h : N < 16777216) : g_col (nI N) 1 = xI (N / 64 % 8) := by
  unfold g_col
  rw [pk_shrN (k := 6) (by omega) _ (by decide), pk_andN (k := 3) (by omega) (by decide)]; rfl
theorem gN_c2 {N : Nat} (h : N < 16777216) : g_col (nI N) 2 = xI (N / 8 % 8) := by
  unfold g_col
  rw [pk_shrN (k := 3) (by omega) _ (by decide), pk_andN (k := 3) (by omega) (by decide)]; rfl
theorem gN_c3 {N : Nat} (h : N < 16777216) : g_col (nI N) 3 = xI (N % 8) := by
  unfold g_col
  rw [pk_shrN (k := 0) (by omega) _ (by decide), pk_andN (k := 3) (by omega) (by decide), Nat.pow_zero, Nat.div_one]; rfl
theorem cod_mark {m a s0 s1 s2 s3 : Nat} (h : dgt m a s0 s1 s2 s3) : g_mark (cod m a s0 s1 s2 s3) = nI (mkN m) := by
  unfold cod; rw [gN_mark (cdN_lt h), (cdN_d h).1]
  congr 1
  rcases mkN_r m with z | z | z <;> rw [z]
theorem cod_agg {m a s0 s1 s2 s3 : Nat} (h : dgt m a s0 s1 s2 s3) : g_agg (cod m a s0 s1 s2 s3) = nI a := by
  unfold cod; rw [gN_agg (cdN_lt h), (cdN_d h).2.1]
theorem cod_c0 {m a s0 s1 s2 s3 : Nat} (h : dgt m a s0 s1 s2 s3) : g_col (cod m a s0 s1 s2 s3) 0 = xI s0 := by
  unfold cod; rw [gN_c0 (cdN_lt h), (cdN_d h).2.2.1]
theorem cod_c1 {m a s0 s1 s2 s3 : Nat} (h : dgt m a s0 s1 s2 s3) : g_col (cod m a s0 s1 s2 s3) 1 = xI s1 := by
  unfold cod; rw [gN_c1 (cdN_lt h), (cdN_d h).2.2.2.1]
theorem cod_c2 {m a s0 s1 s2 s3 : Nat} (h : dgt m a s0 s1 s2 s3) : g_col (cod m a s0 s1 s2 s3) 2 = xI s2 := by
  unfold cod; rw [gN_c2 (cdN_lt h), (cdN_d h).2.2.2.2.1]
theorem cod_c3 {m a s0 s1 s2 s3 : Nat} (h : dgt m a s0 s1 s2 s3) : g_col (cod m a s0 s1 s2 s3) 3 = xI s3 := by
  unfold cod; rw [gN_c3 (cdN_lt h), (cdN_d h).2.2.2.2.2]
theorem named_mkN {m : Nat} (h : m < 3) : g_named (nI m) = nI (mkN m) := by
  rcases (show m = 0 ∨ m = 1 ∨ m = 2 by omega) with rfl | rfl | rfl <;> decide
/-- the set of columns -/
def scN (s0 s1 s2 s3 : Nat) : Nat := ((((0 ||| 2 ^ s3) ||| 2 ^ s2) ||| 2 ^ s1) ||| 2 ^ s0) / 2
theorem one_shl {s : Nat} (h : s < 8) : (1 : Int32) <<< (nI s &&& 31) = nI (2 ^ s) := by
  have : ∀ z, z < 8 → (1 : Int32) <<< (nI z &&& 31) = nI (2 ^ z) := by decide +kernel
  exact this s h
theorem cod_set {m a s0 s1 s2 s3 : Nat} (h : dgt m a s0 s1 s2 s3) : g_set (cod m a s0 s1 s2 s3) = nI (scN s0 s1 s2 s3) := by
  have hl := cdN_lt h
  have hd := cdN_d h
  obtain ⟨h1, h2, h3, h4, h5, h6⟩ := h
  have q0 : (nI (cdN m a s0 s1 s2 s3) >>> ((0 : Int32) &&& 31)) &&& 7 = nI s3 := by
    rw [pk_shrN (k := 0) (by omega) _ (by decide), pk_andN (k := 3) (by omega) (by decide)]
    rw [show cdN m a s0 s1 s2 s3 / 2 ^ 0 % 2 ^ 3 = s3 from by rw [Nat.pow_zero, Nat.div_one]; exact hd.2.2.2.2.2]
  have q1 : (nI (cdN m a s0 s1 s2 s3) >>> ((3 : Int32) &&& 31)) &&& 7 = nI s2 := by
    rw [pk_shrN (k := 3) (by omega) _ (by decide), pk_andN (k := 3) (by omega) (by decide)]
    rw [show cdN m a s0 s1 s2 s3 / 2 ^ 3 % 2 ^ 3 = s2 from hd.2.2.2.2.1]
  have q2 : (nI (cdN m a s0 s1 s2 s3) >>> ((6 : Int32) &&& 31)) &&& 7 = nI s1 := by
    rw [pk_shrN (k := 6) (by omega) _ (by decide), pk_andN (k := 3) (by omega) (by decide)]
    rw [show cdN m a s0 s1 s2 s3 / 2 ^ 6 % 2 ^ 3 = s1 from hd.2.2.2.1]
  have q3 : (nI (cdN m a s0 s1 s2 s3) >>> ((9 : Int32) &&& 31)) &&& 7 = nI s0 := by
    rw [pk_shrN (k := 9) (by omega) _ (by decide), pk_andN (k := 3) (by omega) (by decide)]
    rw [show cdN m a s0 s1 s2 s3 / 2 ^ 9 % 2 ^ 3 = s0 from hd.2.2.1]
  unfold cod g_set
  rw [q0, q1, q2, q3]
  rw [one_shl (by omega), one_shl (by omega), one_shl (by omega), one_shl (by omega)]
  rw [show (0 : Int32) = nI 0 from rfl, fa_or, fa_or, fa_or, fa_or]
  have hb : (((0 ||| 2 ^ s3) ||| 2 ^ s2) ||| 2 ^ s1) ||| 2 ^ s0 < 2 ^ 7 := by
    have p3 : 2 ^ s3 < 2 ^ 7 := Nat.pow_lt_pow_right (by decide) h6
    have p2 : 2 ^ s2 < 2 ^ 7 := Nat.pow_lt_pow_right (by decide) h5
    have p1 : 2 ^ s1 < 2 ^ 7 := Nat.pow_lt_pow_right (by decide) h4
    have p0 : 2 ^ s0 < 2 ^ 7 := Nat.pow_lt_pow_right (by decide) h3
    exact Nat.or_lt_two_pow (Nat.or_lt_two_pow (Nat.or_lt_two_pow (Nat.or_lt_two_pow (by decide) p3) p2) p1) p0
  rw [pk_shrN (k := 1) (by omega) _ (by decide)]
  rfl
theorem scN_lt {s0 s1 s2 s3 : Nat} (h3 : s0 < 7) (h4 : s1 < 7) (h5 : s2 < 7) (h6 : s3 < 7) : scN s0 s1 s2 s3 < 64 := by
  have p3 : 2 ^ s3 < 2 ^ 7 := Nat.pow_lt_pow_right (by decide) h6
  have p2 : 2 ^ s2 < 2 ^ 7 := Nat.pow_lt_pow_right (by decide) h5
  have p1 : 2 ^ s1 < 2 ^ 7 := Nat.pow_lt_pow_right (by decide) h4
  have p0 : 2 ^ s0 < 2 ^ 7 := Nat.pow_lt_pow_right (by decide) h3
  have hb : (((0 ||| 2 ^ s3) ||| 2 ^ s2) ||| 2 ^ s1) ||| 2 ^ s0 < 2 ^ 7 := Nat.or_lt_two_pow (Nat.or_lt_two_pow (Nat.or_lt_two_pow (Nat.or_lt_two_pow (by decide) p3) p2) p1) p0
  unfold scN; omega
theorem scN_b {s0 s1 s2 s3 e : Nat} : (scN s0 s1 s2 s3).testBit e = true ↔ e + 1 = s0 ∨ e + 1 = s1 ∨ e + 1 = s2 ∨ e + 1 = s3 := by
  unfold scN
  rw [show ((((0 ||| 2 ^ s3) ||| 2 ^ s2) ||| 2 ^ s1) ||| 2 ^ s0) / 2 = ((((0 ||| 2 ^ s3) ||| 2 ^ s2) ||| 2 ^ s1) ||| 2 ^ s0) / 2 ^ 1 from rfl, Nat.testBit_div_two_pow]
  simp only [Nat.testBit_or, Nat.testBit_two_pow, Nat.zero_testBit, Bool.false_or, Bool.or_eq_true, decide_eq_true_eq]
  omega
/-- whether a column is in a chart -/
theorem cod_holds {m a s0 s1 s2 s3 t : Nat} (h : dgt m a s0 s1 s2 s3) (ht : t < 7) : g_holds (cod m a s0 s1 s2 s3) (xI t) ↔ (¬ t = 0 ∧ (t = s0 ∨ t = s1 ∨ t = s2 ∨ t = s3)) := by
  unfold g_holds
  rw [cod_set h]
  have hs := scN_lt h.2.2.1 h.2.2.2.1 h.2.2.2.2.1 h.2.2.2.2.2
  cases t with
  | zero => simp [show xI 0 = -1 from by decide]
  | succ t =>
    have e : xI (t + 1) = nI t := nI_pred t
    rw [e, pk_shrN (k := t) (by omega) _ (s_l t (by omega)), pk_andN (k := 1) (Nat.lt_of_le_of_lt (Nat.div_le_self _ _) (by omega)) (by decide)]
    have hb := scN_b (s0 := s0) (s1 := s1) (s2 := s2) (s3 := s3) (e := t)
    rw [Nat.testBit_eq_decide_div_mod_eq, decide_eq_true_eq] at hb
    rw [← hb]
    have hn : ¬ nI t = -1 := fun hh => by
      have := congrArg Int32.toInt hh
      rw [nI_toInt (by omega)] at this
      have hz : (-1 : Int32).toInt = -1 := by decide
      omega
    have h2 : scN s0 s1 s2 s3 / 2 ^ t % 2 ^ 1 = 0 ∨ scN s0 s1 s2 s3 / 2 ^ t % 2 ^ 1 = 1 := by omega
    rcases h2 with z | z
    · rw [z]
      constructor
      · intro hh; exact absurd rfl hh.2
      · intro hh; have z' : scN s0 s1 s2 s3 / 2 ^ t % 2 = 0 := z; omega
    · rw [z]
      constructor
      · intro _; exact ⟨Nat.succ_ne_zero t, rfl⟩
      · intro _; exact ⟨hn, by decide⟩
