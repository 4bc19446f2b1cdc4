/-! places; the charts in their order -/
theorem pf_lI {a : Nat} (h : a < 2 ^ 63) : (lN a).toInt = (a : Int) := lg_ofNat_toInt h
theorem pf_shr {a d : Nat} {D : Int64} (hD : (D.toBitVec.smod 64).toNat = d) (h : a < 2 ^ 62) : lN a >>> D = lN (a / 2 ^ d) := by
  have hd : a / 2 ^ d ≤ a := Nat.div_le_self _ _
  apply Int64.toInt_inj.mp
  have e : (lN a >>> D).toInt = (lN a).toInt >>> d := by
    rw [← hD]
    exact BitVec.toInt_sshiftRight ..
  rw [e, Int.shiftRight_eq_div_pow, pf_lI (by omega), pf_lI (by omega)]
  rfl
theorem p_of_N {C N : Nat} (hC : C < 1048576) (hN : N < 16777216) : p_of (nI C) (nI N) = lN (16777216 * C + N) := by
  unfold p_of
  rw [nI_l (by omega), nI_l (by omega), show ((24 : Int32).toInt64 &&& 63) = ((nI 24).toInt64 &&& 63) from rfl, wb_shl C (by decide)]
  have e := fb_or_sumL (a := N) (k := 24) C (by omega)
  rw [Nat.mul_comm] at e
  rw [e, Nat.mul_comm C]
theorem p_cost_N {C N : Nat} (hC : C < 1048576) (hN : N < 16777216) : p_cost (lN (16777216 * C + N)) = nI C := by
  unfold p_cost
  rw [pf_shr (d := 24) (by decide) (by omega), show (16777216 * C + N) / 2 ^ 24 = C by omega]
  exact Int64.toInt32_ofNat'
theorem p_chart_N {C N : Nat} (hN : N < 16777216) : p_chart (lN (16777216 * C + N)) = nI N := by
  unfold p_chart
  rw [show (16777215 : Int64) = lN (2 ^ 24 - 1) from rfl, fb_maskL, show (16777216 * C + N) % 2 ^ 24 = N by omega]
  exact Int64.toInt32_ofNat'
theorem p_lt_N {C N C' N' : Nat} (hC : C < 1048576) (hN : N < 16777216) (hC' : C' < 1048576) (hN' : N' < 16777216) : p_of (nI C) (nI N) < p_of (nI C') (nI N') ↔ C < C' ∨ (C = C' ∧ N < N') := by
  rw [p_of_N hC hN, p_of_N hC' hN', pk_lLT (by omega) (by omega)]; omega
theorem p_le_N {C N C' N' : Nat} (hC : C < 1048576) (hN : N < 16777216) (hC' : C' < 1048576) (hN' : N' < 16777216) (h1 : C ≤ C') (h2 : N ≤ N') : p_of (nI C) (nI N) ≤ p_of (nI C') (nI N') := by
  rw [p_of_N hC hN, p_of_N hC' hN', pk_lLE (by omega) (by omega)]; omega
theorem p_eq_N {C N C' N' : Nat} (hC : C < 1048576) (hN : N < 16777216) (hC' : C' < 1048576) (hN' : N' < 16777216) (h : p_of (nI C) (nI N) = p_of (nI C') (nI N')) : C = C' ∧ N = N' := by
  rw [p_of_N hC hN, p_of_N hC' hN', pk_lEQ (by omega) (by omega)] at h; omega
/-- the digits of a chart's number in the order of all charts -/
def d3 (t : Nat) : Nat := t % 7
def d2 (t : Nat) : Nat := t / 7 % 7
def d1 (t : Nat) : Nat := t / 7 / 7 % 7
def d0 (t : Nat) : Nat := t / 7 / 7 / 7 % 7
def da (t : Nat) : Nat := t / 7 / 7 / 7 / 7 % 3
def dm (t : Nat) : Nat := t / 7 / 7 / 7 / 7 / 3
def idx (m a s0 s1 s2 s3 : Nat) : Nat := 7 * (7 * (7 * (7 * (3 * m + a) + s0) + s1) + s2) + s3
theorem dgt_t {t : Nat} (h : t < 21609) : dgt (dm t) (da t) (d0 t) (d1 t) (d2 t) (d3 t) := by
  refine ⟨?_, ?_, ?_, ?_, ?_, ?_⟩ <;> (simp only [dm, da, d0, d1, d2, d3]; omega)
theorem idx_t (t : Nat) : idx (dm t) (da t) (d0 t) (d1 t) (d2 t) (d3 t) = t := by
  simp only [idx, dm, da, d0, d1, d2, d3]; omega
theorem t_idx {m a s0 s1 s2 s3 : Nat} (h : dgt m a s0 s1 s2 s3) : dm (idx m a s0 s1 s2 s3) = m ∧ da (idx m a s0 s1 s2 s3) = a ∧ d0 (idx m a s0 s1 s2 s3) = s0 ∧ d1 (idx m a s0 s1 s2 s3) = s1 ∧ d2 (idx m a s0 s1 s2 s3) = s2 ∧ d3 (idx m a s0 s1 s2 s3) = s3 ∧ idx m a s0 s1 s2 s3 < 21609 := by
  obtain ⟨h1, h2, h3, h4, h5, h6⟩ := h
  have e1 : idx m a s0 s1 s2 s3 / 7 = 7 * (7 * (7 * (3 * m + a) + s0) + s1) + s2 := by unfold idx; omega
  have e2 : idx m a s0 s1 s2 s3 / 7 / 7 = 7 * (7 * (3 * m + a) + s0) + s1 := by rw [e1]; omega
  have e3 : idx m a s0 s1 s2 s3 / 7 / 7 / 7 = 7 * (3 * m + a) + s0 := by rw [e2]; omega
  have e4 : idx m a s0 s1 s2 s3 / 7 / 7 / 7 / 7 = 3 * m + a := by rw [e3]; omega
  refine ⟨?_, ?_, ?_, ?_, ?_, ?_, ?_⟩
  · unfold dm; rw [e4]; omega
  · unfold da; rw [e4]; omega
  · unfold d0; rw [e3]; omega
  · unfold d1; rw [e2]; omega
  · unfold d2; rw [e1]; omega
  · unfold d3 idx; omega
  · unfold idx; omega
def codT (t : Nat) : Nat := cdN (dm t) (da t) (d0 t) (d1 t) (d2 t) (d3 t)
def codI (t : Nat) : Int32 := nI (codT t)
theorem codT_lt {t : Nat} (h : t < 21609) : codT t < 16777216 := cdN_lt (dgt_t h)
theorem codI_idx {m a s0 s1 s2 s3 : Nat} (h : dgt m a s0 s1 s2 s3) : codI (idx m a s0 s1 s2 s3) = cod m a s0 s1 s2 s3 := by
  obtain ⟨h1, h2, h3, h4, h5, h6, -⟩ := t_idx h
  unfold codI codT cod
  rw [h1, h2, h3, h4, h5, h6]
theorem mkN_mono {m m' : Nat} (h' : m' < 3) (h : m < m') : mkN m < mkN m' := by
  rcases (show (m = 0 ∧ m' = 1) ∨ (m = 0 ∧ m' = 2) ∨ (m = 1 ∧ m' = 2) by omega) with ⟨rfl, rfl⟩ | ⟨rfl, rfl⟩ | ⟨rfl, rfl⟩ <;> decide
theorem lexl {x y P R s r : Nat} (hs : s < 7) (hr : r < 7) (h1 : x < y → P < R) (h2 : x = y → P = R) (h : 7 * x + s < 7 * y + r) : 8 * P + s < 8 * R + r := by
  rcases Nat.lt_trichotomy x y with z | z | z
  · have := h1 z; omega
  · have := h2 z; omega
  · omega
theorem lexe {x y P R s r : Nat} (hs : s < 7) (hr : r < 7) (h2 : x = y → P = R) (h : 7 * x + s = 7 * y + r) : 8 * P + s = 8 * R + r := by
  have := h2 (by omega); omega
theorem codT_8 (t : Nat) : codT t = 8 * (8 * (8 * (8 * (4 * mkN (dm t) + da t) + d0 t) + d1 t) + d2 t) + d3 t := by
  unfold codT cdN; omega
/-- the charts' numbers stand in the order of all charts -/
theorem codT_mono {t u : Nat} (hu : u < 21609) (h : t < u) : codT t < codT u := by
  obtain ⟨g1, g2, g3, g4, g5, g6⟩ := dgt_t (show t < 21609 by omega)
  obtain ⟨k1, k2, k3, k4, k5, k6⟩ := dgt_t hu
  rw [← idx_t t, ← idx_t u] at h
  rw [codT_8, codT_8]
  unfold idx at h
  have hl : 3 * dm t + da t < 3 * dm u + da u → 4 * mkN (dm t) + da t < 4 * mkN (dm u) + da u := by
    intro z
    by_cases zm : dm t = dm u
    · rw [zm] at z ⊢; omega
    · have := mkN_mono k1 (show dm t < dm u by omega); omega
  have he : 3 * dm t + da t = 3 * dm u + da u → 4 * mkN (dm t) + da t = 4 * mkN (dm u) + da u := by
    intro z
    have zm : dm t = dm u := by omega
    rw [zm] at z ⊢; omega
  exact lexl g6 k6 (lexl g5 k5 (lexl g4 k4 (lexl g3 k3 hl he) (lexe g3 k3 he)) (lexe g4 k4 (lexe g3 k3 he))) (lexe g5 k5 (lexe g4 k4 (lexe g3 k3 he))) h
theorem codT_inj {t u : Nat} (ht : t < 21609) (hu : u < 21609) (h : codT t = codT u) : t = u := by
  rcases Nat.lt_trichotomy t u with z | z | z
  · have := codT_mono hu z; omega
  · exact z
  · have := codT_mono ht z; omega
/-- no column twice -/
def dist (s0 s1 s2 s3 : Nat) : Prop := (s0 = 0 ∨ (s0 ≠ s1 ∧ s0 ≠ s2 ∧ s0 ≠ s3)) ∧ (s1 = 0 ∨ (s1 ≠ s2 ∧ s1 ≠ s3)) ∧ (s2 = 0 ∨ s2 ≠ s3)
def dstI (t : Nat) : Prop := dist (d0 t) (d1 t) (d2 t) (d3 t)
/-- the places of the allowed charts below a number -/
def alI (fb : Int32 → Int32) (t : Nat) : Prop := dstI t ∧ fb (codI t) = 0
def plI (co : Int32 → Int32) (t : Nat) : Int64 := p_of (co (codI t)) (codI t)
def SN (fb co : Int32 → Int32) (k : Nat) (p : Int64) : Prop := ∃ t, t < k ∧ alI fb t ∧ plI co t = p
/-- costs within bounds -/
def coOK (co : Int32 → Int32) : Prop := ∀ t, t < 21609 → ∃ C, C < 1048576 ∧ co (codI t) = nI C
theorem plI_inj {co : Int32 → Int32} (hc : coOK co) {t u : Nat} (ht : t < 21609) (hu : u < 21609) (h : plI co t = plI co u) : t = u := by
  obtain ⟨C, c1, c2⟩ := hc t ht
  obtain ⟨C', c3, c4⟩ := hc u hu
  unfold plI at h
  rw [c2, c4] at h
  exact codT_inj ht hu (p_eq_N c1 (codT_lt ht) c3 (codT_lt hu) h).2
theorem SN_new {fb co : Int32 → Int32} (hc : coOK co) {k : Nat} (hk : k < 21609) : ¬ SN fb co k (plI co k) := by
  rintro ⟨t, h1, -, h3⟩
  have := plI_inj hc (by omega) hk h3
  omega
theorem SN_s {fb co : Int32 → Int32} {k : Nat} (h : alI fb k) (p : Int64) : (SN fb co k p ∨ p = plI co k) ↔ SN fb co (k + 1) p := by
  constructor
  · rintro (⟨t, h1, h2⟩ | rfl)
    · exact ⟨t, by omega, h2⟩
    · exact ⟨k, by omega, h, rfl⟩
  · rintro ⟨t, h1, h2, h3⟩
    by_cases hk : t = k
    · subst hk; exact Or.inr h3.symm
    · exact Or.inl ⟨t, by omega, h2, h3⟩
/-- one more chart, offered if it is allowed -/
theorem Top_step {fb co : Int32 → Int32} (hc : coOK co) {k : Nat} (hk : k < 21609) {b : BT} (h : TopS (SN fb co k) b) (ha : alI fb k) : TopS (SN fb co (k + 1)) (offerB b (plI co k)) := TopS_c (SN_s ha) (TopS_offer h (SN_new hc hk))
/-- charts passed over: not allowed, or out of reach -/
theorem Top_skip {fb co : Int32 → Int32} {k j : Nat} {b : BT} (h : TopS (SN fb co k) b) (hkj : k ≤ j) (hn : ∀ t, k ≤ t → t < j → alI fb t → b.1 = 5 ∧ b.2 4 ≤ plI co t) : TopS (SN fb co j) b := by
  refine TopS_skip h (fun p hp => ?_) (fun p hp => ?_)
  · obtain ⟨t, h1, h2⟩ := hp; exact ⟨t, by omega, h2⟩
  · obtain ⟨t, h1, h2, h3⟩ := hp
    by_cases hk : t < k
    · exact Or.inl ⟨t, hk, h2, h3⟩
    · exact Or.inr (h3 ▸ hn t (by omega) h1 h2)
