/-! a chart's row of digits -/
def rowOf (f : Nat → Int32) (t : Nat) : Prop := f 0 = nI (dm t) ∧ f 1 = nI (da t) ∧ f 2 = xI (d0 t) ∧ f 3 = xI (d1 t) ∧ f 4 = xI (d2 t) ∧ f 5 = xI (d3 t)
theorem xI_inj {a b : Nat} (ha : a < 7) (hb : b < 7) (h : xI a = xI b) : a = b := by
  have : ∀ a, a < 7 → ∀ b, b < 7 → xI a = xI b → a = b := by decide +kernel
  exact this a ha b hb h
theorem xI_neg {a : Nat} (ha : a < 7) : xI a < 0 ↔ a = 0 := by
  have : ∀ a, a < 7 → (xI a < 0 ↔ a = 0) := by decide +kernel
  exact this a ha
theorem row_dst {f : Nat → Int32} {t : Nat} (ht : t < 21609) (h : rowOf f t) : m_dst f ↔ dstI t := by
  obtain ⟨g1, g2, g3, g4, g5, g6⟩ := dgt_t ht
  obtain ⟨h0, h1, h2, h3, h4, h5⟩ := h
  unfold m_dst m_ds dstI dist
  rw [h2, h3, h4, h5, xI_neg g4, xI_neg g5, xI_neg g6]
  have e : ∀ a b, a < 7 → b < 7 → (xI a = xI b ↔ a = b) := fun a b ha hb => ⟨xI_inj ha hb, fun z => by rw [z]⟩
  rw [e _ _ g4 g3, e _ _ g5 g3, e _ _ g5 g4, e _ _ g6 g3, e _ _ g6 g4, e _ _ g6 g5]
  omega
section ROW
variable {fb co : Int32 → Int32}
theorem pl_le {co : Int32 → Int32} (hc : coOK co) {t k : Nat} (ht : t < k) (hk : k < 21609) : plI co t < plI co k ↔ co (codI t) ≤ co (codI k) := by
  obtain ⟨C, c1, c2⟩ := hc t (by omega)
  obtain ⟨D, d1, d2⟩ := hc k hk
  unfold plI
  rw [c2, d2, show codI t = nI (codT t) from rfl, show codI k = nI (codT k) from rfl, p_lt_N c1 (codT_lt (by omega)) d1 (codT_lt hk), nI_leI (by omega) (by omega)]
  have := codT_mono hk ht
  omega
theorem rowOf_c {f g : Nat → Int32} {t : Nat} (h : rowOf f t) (e : ∀ z, z < 6 → g z = f z) : rowOf g t := by
  obtain ⟨h0, h1, h2, h3, h4, h5⟩ := h
  exact ⟨(e 0 (by decide)).trans h0, (e 1 (by decide)).trans h1, (e 2 (by decide)).trans h2, (e 3 (by decide)).trans h3, (e 4 (by decide)).trans h4, (e 5 (by decide)).trans h5⟩
end ROW
