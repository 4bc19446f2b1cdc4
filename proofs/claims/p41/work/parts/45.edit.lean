/-! charts changed in one place -/
theorem andP (k x u : Nat) {y v : Nat} (hy : y < 2 ^ k) (hv : v < 2 ^ k) : (2 ^ k * x + y) &&& (2 ^ k * u + v) = 2 ^ k * (x &&& u) + (y &&& v) := by
  have hp : 0 < 2 ^ k := Nat.two_pow_pos k
  have h1 : ((2 ^ k * x + y) &&& (2 ^ k * u + v)) / 2 ^ k = x &&& u := by
    rw [Nat.and_div_two_pow, Nat.mul_add_div hp, Nat.mul_add_div hp, Nat.div_eq_of_lt hy, Nat.div_eq_of_lt hv]; rfl
  have h2 : ((2 ^ k * x + y) &&& (2 ^ k * u + v)) % 2 ^ k = y &&& v := by
    rw [Nat.and_mod_two_pow, Nat.mul_add_mod, Nat.mul_add_mod, Nat.mod_eq_of_lt hy, Nat.mod_eq_of_lt hv]
  have h3 := Nat.div_add_mod ((2 ^ k * x + y) &&& (2 ^ k * u + v)) (2 ^ k)
  rw [h1, h2] at h3
  exact h3.symm
theorem orP (k x : Nat) {y v : Nat} (hy : y < 2 ^ k) (hv : v < 2 ^ k) : (2 ^ k * x + y) ||| v = 2 ^ k * x + (y ||| v) := by
  have hp : 0 < 2 ^ k := Nat.two_pow_pos k
  have h1 : ((2 ^ k * x + y) ||| v) / 2 ^ k = x := by
    rw [Nat.or_div_two_pow, Nat.mul_add_div hp, Nat.div_eq_of_lt hy, Nat.div_eq_of_lt hv, Nat.or_zero]; rfl
  have h2 : ((2 ^ k * x + y) ||| v) % 2 ^ k = y ||| v := by
    rw [Nat.or_mod_two_pow, Nat.mul_add_mod, Nat.mod_eq_of_lt hy, Nat.mod_eq_of_lt hv]
  have h3 := Nat.div_add_mod ((2 ^ k * x + y) ||| v) (2 ^ k)
  rw [h1, h2] at h3
  exact h3.symm
theorem xI_p1 (s : Nat) : xI s + 1 = nI s := by
  show nI s - 1 + 1 = nI s
  exact Int32.sub_add_cancel _ _
theorem and_ones {x k : Nat} (h : x < 2 ^ k) : x &&& (2 ^ k - 1) = x := by rw [Nat.and_two_pow_sub_one_eq_mod, Nat.mod_eq_of_lt h]
theorem wc0 {hi d lo s : Nat} (hh : hi < 4096) (hd : d < 8) (hl : lo < 512) (hs : s < 8) : g_wCol (nI (4096 * hi + (512 * d + lo))) 0 (xI s) = nI (4096 * hi + (512 * s + lo)) := by
  unfold g_wCol
  rw [show ((7 : Int32) <<< (((3 - 0) * 3) &&& 31)) ^^^ (-1) = nI (2 ^ 12 * (2 ^ 20 - 1) + (2 ^ 9 - 1)) from by decide, fa_and]
  have e1 : (4096 * hi + (512 * d + lo)) &&& (2 ^ 12 * (2 ^ 20 - 1) + (2 ^ 9 - 1)) = 4096 * hi + lo := by
    rw [show 4096 * hi + (512 * d + lo) = 2 ^ 12 * hi + (512 * d + lo) from rfl, andP 12 hi (2 ^ 20 - 1) (by omega) (by decide), and_ones (by omega), Nat.and_two_pow_sub_one_eq_mod]
    omega
  rw [e1, xI_p1, pk_shlN (k := 9) _ (by decide) (by omega), fa_or]
  have e2 : (4096 * hi + lo) ||| (s * 2 ^ 9) = 4096 * hi + (512 * s + lo) := by
    rw [show 4096 * hi + lo = 2 ^ 12 * hi + lo from rfl, orP 12 hi (by omega) (by omega)]
    have e3 : lo ||| s * 2 ^ 9 = 512 * s + lo := by
      have z := orP 9 s (y := 0) (v := lo) (by decide) (by omega)
      rw [Nat.add_zero, Nat.zero_or] at z
      rw [Nat.or_comm, Nat.mul_comm]; exact z
    rw [e3]
  rw [e2]
theorem wc1 {hi d lo s : Nat} (hh : hi < 32768) (hd : d < 8) (hl : lo < 64) (hs : s < 8) : g_wCol (nI (512 * hi + (64 * d + lo))) 1 (xI s) = nI (512 * hi + (64 * s + lo)) := by
  unfold g_wCol
  rw [show ((7 : Int32) <<< (((3 - 1) * 3) &&& 31)) ^^^ (-1) = nI (2 ^ 9 * (2 ^ 23 - 1) + (2 ^ 6 - 1)) from by decide, fa_and]
  have e1 : (512 * hi + (64 * d + lo)) &&& (2 ^ 9 * (2 ^ 23 - 1) + (2 ^ 6 - 1)) = 512 * hi + lo := by
    rw [show 512 * hi + (64 * d + lo) = 2 ^ 9 * hi + (64 * d + lo) from rfl, andP 9 hi (2 ^ 23 - 1) (by omega) (by decide), and_ones (by omega), Nat.and_two_pow_sub_one_eq_mod]
    omega
  rw [e1, xI_p1, pk_shlN (k := 6) _ (by decide) (by omega), fa_or]
  have e2 : (512 * hi + lo) ||| (s * 2 ^ 6) = 512 * hi + (64 * s + lo) := by
    rw [show 512 * hi + lo = 2 ^ 9 * hi + lo from rfl, orP 9 hi (by omega) (by omega)]
    have e3 : lo ||| s * 2 ^ 6 = 64 * s + lo := by
      have z := orP 6 s (y := 0) (v := lo) (by decide) (by omega)
      rw [Nat.add_zero, Nat.zero_or] at z
      rw [Nat.or_comm, Nat.mul_comm]; exact z
    rw [e3]
  rw [e2]
theorem wc2 {hi d lo s : Nat} (hh : hi < 262144) (hd : d < 8) (hl : lo < 8) (hs : s < 8) : g_wCol (nI (64 * hi + (8 * d + lo))) 2 (xI s) = nI (64 * hi + (8 * s + lo)) := by
  unfold g_wCol
  rw [show ((7 : Int32) <<< (((3 - 2) * 3) &&& 31)) ^^^ (-1) = nI (2 ^ 6 * (2 ^ 26 - 1) + (2 ^ 3 - 1)) from by decide, fa_and]
  have e1 : (64 * hi + (8 * d + lo)) &&& (2 ^ 6 * (2 ^ 26 - 1) + (2 ^ 3 - 1)) = 64 * hi + lo := by
    rw [show 64 * hi + (8 * d + lo) = 2 ^ 6 * hi + (8 * d + lo) from rfl, andP 6 hi (2 ^ 26 - 1) (by omega) (by decide), and_ones (by omega), Nat.and_two_pow_sub_one_eq_mod]
    omega
  rw [e1, xI_p1, pk_shlN (k := 3) _ (by decide) (by omega), fa_or]
  have e2 : (64 * hi + lo) ||| (s * 2 ^ 3) = 64 * hi + (8 * s + lo) := by
    rw [show 64 * hi + lo = 2 ^ 6 * hi + lo from rfl, orP 6 hi (by omega) (by omega)]
    have e3 : lo ||| s * 2 ^ 3 = 8 * s + lo := by
      have z := orP 3 s (y := 0) (v := lo) (by decide) (by omega)
      rw [Nat.add_zero, Nat.zero_or] at z
      rw [Nat.or_comm, Nat.mul_comm]; exact z
    rw [e3]
  rw [e2]
theorem wc3 {hi d s : Nat} (hh : hi < 2097152) (hd : d < 8) (hs : s < 8) : g_wCol (nI (8 * hi + d)) 3 (xI s) = nI (8 * hi + s) := by
  unfold g_wCol
  rw [show ((7 : Int32) <<< (((3 - 3) * 3) &&& 31)) ^^^ (-1) = nI (2 ^ 3 * (2 ^ 29 - 1) + 0) from by decide, fa_and]
  have e1 : (8 * hi + d) &&& (2 ^ 3 * (2 ^ 29 - 1) + 0) = 8 * hi := by
    rw [show 8 * hi + d = 2 ^ 3 * hi + d from rfl, andP 3 hi (2 ^ 29 - 1) (by omega) (by decide), and_ones (by omega), Nat.and_zero]
    rfl
  rw [e1, xI_p1, pk_shlN (k := 0) _ (by decide) (by omega), fa_or]
  have e2 : (8 * hi) ||| (s * 2 ^ 0) = 8 * hi + s := by
    have z := orP 3 hi (y := 0) (v := s) (by decide) (by omega)
    rw [Nat.add_zero, Nat.zero_or] at z
    rw [Nat.pow_zero, Nat.mul_one]; exact z
  rw [e2]
theorem mkN_lt (m : Nat) : mkN m < 128 := by rcases mkN_r m with z | z | z <;> rw [z] <;> decide
theorem cod_w0 {m a s0 s1 s2 s3 s : Nat} (h : dgt m a s0 s1 s2 s3) (hs : s < 7) : g_wCol (cod m a s0 s1 s2 s3) 0 (xI s) = cod m a s s1 s2 s3 := by
  obtain ⟨h1, h2, h3, h4, h5, h6⟩ := h
  have hm := mkN_lt m
  have e : ∀ z, cdN m a z s1 s2 s3 = 4096 * (4 * mkN m + a) + (512 * z + (64 * s1 + 8 * s2 + s3)) := fun z => by unfold cdN; omega
  unfold cod
  rw [e, e, wc0 (by omega) (by omega) (by omega) (by omega)]
theorem cod_w1 {m a s0 s1 s2 s3 s : Nat} (h : dgt m a s0 s1 s2 s3) (hs : s < 7) : g_wCol (cod m a s0 s1 s2 s3) 1 (xI s) = cod m a s0 s s2 s3 := by
  obtain ⟨h1, h2, h3, h4, h5, h6⟩ := h
  have hm := mkN_lt m
  have e : ∀ z, cdN m a s0 z s2 s3 = 512 * (8 * (4 * mkN m + a) + s0) + (64 * z + (8 * s2 + s3)) := fun z => by unfold cdN; omega
  unfold cod
  rw [e, e, wc1 (by omega) (by omega) (by omega) (by omega)]
theorem cod_w2 {m a s0 s1 s2 s3 s : Nat} (h : dgt m a s0 s1 s2 s3) (hs : s < 7) : g_wCol (cod m a s0 s1 s2 s3) 2 (xI s) = cod m a s0 s1 s s3 := by
  obtain ⟨h1, h2, h3, h4, h5, h6⟩ := h
  have hm := mkN_lt m
  have e : ∀ z, cdN m a s0 s1 z s3 = 64 * (8 * (8 * (4 * mkN m + a) + s0) + s1) + (8 * z + s3) := fun z => by unfold cdN; omega
  unfold cod
  rw [e, e, wc2 (by omega) (by omega) (by omega) (by omega)]
theorem cod_w3 {m a s0 s1 s2 s3 s : Nat} (h : dgt m a s0 s1 s2 s3) (hs : s < 7) : g_wCol (cod m a s0 s1 s2 s3) 3 (xI s) = cod m a s0 s1 s2 s := by
  obtain ⟨h1, h2, h3, h4, h5, h6⟩ := h
  have hm := mkN_lt m
  have e : ∀ z, cdN m a s0 s1 s2 z = 8 * (8 * (8 * (8 * (4 * mkN m + a) + s0) + s1) + s2) + z := fun z => by unfold cdN; omega
  unfold cod
  rw [e, e, wc3 (by omega) (by omega) (by omega)]
theorem cod_bare {m a : Nat} (hm : m < 3) (ha : a < 3) : g_bare (nI (mkN m)) (nI a) = cod m a 0 0 0 0 := by
  rcases (show m = 0 ∨ m = 1 ∨ m = 2 by omega) with rfl | rfl | rfl <;> rcases (show a = 0 ∨ a = 1 ∨ a = 2 by omega) with rfl | rfl | rfl <;> decide
theorem cod_or {m a s0 s1 s2 s3 : Nat} (h : dgt m a s0 s1 s2 s3) : cod m a 0 0 0 0 ||| nI (512 * s0 + (64 * s1 + (8 * s2 + s3))) = cod m a s0 s1 s2 s3 := by
  obtain ⟨h1, h2, h3, h4, h5, h6⟩ := h
  unfold cod
  rw [show cdN m a 0 0 0 0 = 2 ^ 12 * (4 * mkN m + a) from by unfold cdN; omega, fa_or_sum _ (by omega), show cdN m a s0 s1 s2 s3 = 2 ^ 12 * (4 * mkN m + a) + (512 * s0 + (64 * s1 + (8 * s2 + s3))) from by unfold cdN; omega]
theorem cod_wM {m a s0 s1 s2 s3 z : Nat} (h : dgt m a s0 s1 s2 s3) (hz : z < 3) : g_wMark (cod m a s0 s1 s2 s3) (nI (mkN z)) = cod z a s0 s1 s2 s3 := by
  obtain ⟨h1, h2, h3, h4, h5, h6⟩ := h
  have hm := mkN_lt z
  have e : ∀ m, cdN m a s0 s1 s2 s3 = 2 ^ 14 * mkN m + (4096 * a + (512 * s0 + (64 * s1 + (8 * s2 + s3)))) := fun m => by unfold cdN; omega
  unfold cod g_wMark
  rw [e, e, show (-2080769 : Int32) = nI (2 ^ 14 * 262016 + (2 ^ 14 - 1)) from by decide, fa_and, andP 14 _ _ (by omega) (by decide), and_ones (by omega), show mkN m &&& 262016 = 0 from by rcases mkN_r m with q | q | q <;> rw [q] <;> decide,
    pk_shlN (k := 14) _ (by decide) (by omega), fa_or]
  congr 1
  have q := orP 14 (mkN z) (y := 0) (v := 4096 * a + (512 * s0 + (64 * s1 + (8 * s2 + s3)))) (by decide) (by omega)
  rw [Nat.add_zero, Nat.zero_or] at q
  rw [Nat.mul_zero, Nat.zero_add, Nat.or_comm, Nat.mul_comm (mkN z)]; exact q
theorem cod_wA {m a s0 s1 s2 s3 z : Nat} (h : dgt m a s0 s1 s2 s3) (hz : z < 3) : g_wAgg (cod m a s0 s1 s2 s3) (nI z) = cod m z s0 s1 s2 s3 := by
  obtain ⟨h1, h2, h3, h4, h5, h6⟩ := h
  have hm := mkN_lt m
  have e : ∀ a, cdN m a s0 s1 s2 s3 = 2 ^ 14 * mkN m + (2 ^ 12 * a + (512 * s0 + (64 * s1 + (8 * s2 + s3)))) := fun a => by unfold cdN; omega
  unfold cod g_wAgg
  rw [e, e, show (-12289 : Int32) = nI (2 ^ 14 * (2 ^ 18 - 1) + (2 ^ 12 - 1)) from by decide, fa_and, andP 14 _ _ (by omega) (by decide), and_ones (by omega), Nat.and_two_pow_sub_one_eq_mod,
    show (2 ^ 12 * a + (512 * s0 + (64 * s1 + (8 * s2 + s3)))) % 2 ^ 12 = 512 * s0 + (64 * s1 + (8 * s2 + s3)) by omega, pk_shlN (k := 12) _ (by decide) (by omega), fa_or, orP 14 _ (by omega) (by omega)]
  congr 2
  have q := orP 12 z (y := 0) (v := 512 * s0 + (64 * s1 + (8 * s2 + s3))) (by decide) (by omega)
  rw [Nat.add_zero, Nat.zero_or] at q
  rw [Nat.or_comm, Nat.mul_comm z]; exact q
