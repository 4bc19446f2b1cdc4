/-! the model's round finds them too, and counts -/
def rowOf (f : Nat → Int32) (t : Nat) : Prop := f 0 = nI (dm t) ∧ f 1 = nI (da t) ∧ f 2 = xI (d0 t) ∧ f 3 = xI (d1 t) ∧ f 4 = xI (d2 t) ∧ f 5 = xI (d3 t)
theorem dcd_row (f : Nat → Int32) (i : Nat) : rowOf (dcd f i) i := ⟨rfl, rfl, rfl, rfl, rfl, rfl⟩
theorem xI_inj {a b : Nat} (ha : a < 7) (hb : b < 7) (h : xI a = xI b) : a = b := by
  have : ∀ a, a < 7 → ∀ b, b < 7 → xI a = xI b → a = b := by decide +kernel
  exact this a ha b hb h
theorem xI_neg {a : Nat} (ha : a < 7) : xI a < 0 ↔ a = 0 := by
  have : ∀ a, a < 7 → (xI a < 0 ↔ a = 0) := by decide +kernel
  exact this a ha
theorem row_dst {f : Nat → Int32} {t : Nat} (ht : t < 21609) (h : rowOf f t) : m_dst f ↔ dstI t := by
  obtain ⟨g1, g2, g3, g4, g5, g6⟩ := dgt_t ht
  obtain ⟨h0, h1, h2, h3, h4, h5⟩ := h
  unfold m_dst m_ds dstI dist
  rw [h2, h3, h4, h5, xI_neg g4, xI_neg g5, xI_neg g6]
  have e : ∀ a b, a < 7 → b < 7 → (xI a = xI b ↔ a = b) := fun a b ha hb => ⟨xI_inj ha hb, fun z => by rw [z]⟩
  rw [e _ _ g4 g3, e _ _ g5 g3, e _ _ g5 g4, e _ _ g6 g3, e _ _ g6 g4, e _ _ g6 g5]
  omega
theorem row_lk {f g : Nat → Int32} {i T : Nat} (hi : i < 21609) (hT : T < 21609) (hf : rowOf f i) (hg : rowOf g T) : lkT f g 6 ↔ i = T := by
  obtain ⟨a1, a2, a3, a4, a5, a6⟩ := dgt_t hi
  obtain ⟨b1, b2, b3, b4, b5, b6⟩ := dgt_t hT
  constructor
  · intro h
    have e0 := h 0 (by decide); have e1 := h 1 (by decide); have e2 := h 2 (by decide)
    have e3 := h 3 (by decide); have e4 := h 4 (by decide); have e5 := h 5 (by decide)
    rw [hf.1, hg.1, nI_eq (by omega) (by omega)] at e0
    rw [hf.2.1, hg.2.1, nI_eq (by omega) (by omega)] at e1
    rw [hf.2.2.1, hg.2.2.1] at e2
    rw [hf.2.2.2.1, hg.2.2.2.1] at e3
    rw [hf.2.2.2.2.1, hg.2.2.2.2.1] at e4
    rw [hf.2.2.2.2.2, hg.2.2.2.2.2] at e5
    rw [← idx_t i, ← idx_t T, e0, e1, xI_inj a3 b3 e2, xI_inj a4 b4 e3, xI_inj a5 b5 e4, xI_inj a6 b6 e5]
  · rintro rfl e he
    rcases (show e = 0 ∨ e = 1 ∨ e = 2 ∨ e = 3 ∨ e = 4 ∨ e = 5 by omega) with rfl | rfl | rfl | rfl | rfl | rfl
    · rw [hf.1, hg.1]
    · rw [hf.2.1, hg.2.1]
    · rw [hf.2.2.1, hg.2.2.1]
    · rw [hf.2.2.2.1, hg.2.2.2.1]
    · rw [hf.2.2.2.2.1, hg.2.2.2.2.1]
    · rw [hf.2.2.2.2.2, hg.2.2.2.2.2]
/-- the shifts, place by place -/
theorem shC_at (a : Nat) : ∀ (d : Nat) (C : Nat → Int32) (j : Nat), shC a d C j = if a < j ∧ j ≤ a + d then C (j - 1) else C j
  | 0, C, j => by rw [shC, if_neg (by omega)]
  | d + 1, C, j => by
    rw [shC, shC_at a d]
    by_cases h1 : a < j ∧ j ≤ a + d
    · rw [if_pos h1, if_pos (by omega), pk_un (by omega)]
    · rw [if_neg h1]
      by_cases h2 : j = a + d + 1
      · subst h2; rw [pk_us, if_pos (by omega)]; rfl
      · rw [pk_un h2, if_neg (by omega)]
theorem cpy_at (R : Nat → Int32) (k l : Nat) (hl : 6 * l + 6 ≤ 6 * k) : ∀ (n : Nat), n ≤ 6 → ∀ x, cpy R k l n x = if 6 * k ≤ x ∧ x < 6 * k + n then R (x - 6 * k + 6 * l) else R x
  | 0, _, x => by rw [cpy, if_neg (by omega)]
  | n + 1, hn, x => by
    rw [cpy]
    by_cases h : x = 6 * k + n
    · subst h
      rw [pk_us, if_pos (by omega), cpy_at R k l hl n (by omega), if_neg (by omega)]
      congr 1; omega
    · rw [pk_un h, cpy_at R k l hl n (by omega)]
      by_cases h2 : 6 * k ≤ x ∧ x < 6 * k + n
      · rw [if_pos h2, if_pos (by omega)]
      · rw [if_neg h2, if_neg (by omega)]
theorem shR_at (a : Nat) : ∀ (d : Nat) (R : Nat → Int32) (j z : Nat), z < 6 → shR a d R (6 * j + z) = if a < j ∧ j ≤ a + d then R (6 * (j - 1) + z) else R (6 * j + z)
  | 0, R, j, z, _ => by rw [shR, if_neg (by omega)]
  | d + 1, R, j, z, hz => by
    have c := cpy_at R (a + d + 1) (a + d) (by omega) 6 (Nat.le_refl 6)
    rw [shR, shR_at a d _ j z hz]
    by_cases h1 : a < j ∧ j ≤ a + d
    · rw [if_pos h1, if_pos (by omega), c, if_neg (by omega)]
    · rw [if_neg h1, c]
      by_cases h2 : j = a + d + 1
      · subst h2
        rw [if_pos (by omega), if_pos (by omega)]
        congr 1; omega
      · rw [if_neg (by omega), if_neg (by omega)]
theorem stc_at (R : Nat → Int32) (k : Nat) (f : Nat → Int32) : ∀ (n x : Nat), stc R k f n x = if 6 * k ≤ x ∧ x < 6 * k + n then f (x - 6 * k) else R x
  | 0, x => by rw [stc, if_neg (by omega)]
  | n + 1, x => by
    rw [stc]
    by_cases h : x = 6 * k + n
    · subst h
      rw [pk_us, if_pos (by omega)]
      congr 1; omega
    · rw [pk_un h, stc_at R k f n]
      by_cases h2 : 6 * k ≤ x ∧ x < 6 * k + n
      · rw [if_pos h2, if_pos (by omega)]
      · rw [if_neg h2, if_neg (by omega)]
theorem m_pos_spec (C : Nat → Int32) (c : Int32) : ∀ K, (∀ j, m_pos C c K ≤ j → j < K → c < C j) ∧ (m_pos C c K = 0 ∨ C (m_pos C c K - 1) ≤ c)
  | 0 => ⟨fun j _ h => absurd h (Nat.not_lt_zero j), Or.inl rfl⟩
  | K + 1 => by
    by_cases h : C K ≤ c
    · rw [show m_pos C c (K + 1) = K + 1 from if_pos h]
      exact ⟨fun j h1 h2 => by omega, Or.inr h⟩
    · rw [show m_pos C c (K + 1) = m_pos C c K from if_neg h]
      obtain ⟨h1, h2⟩ := m_pos_spec C c K
      refine ⟨fun j j1 j2 => ?_, h2⟩
      by_cases hj : j = K
      · rw [hj]; exact i_nle.mp h
      · exact h1 j j1 (by omega)
section ROUND
variable {fb co : Int32 → Int32}
abbrev rowR (R : Nat → Int32) (j : Nat) : Nat → Int32 := fun z => R (6 * j + z)
/-- the model's rows hold what the five best are -/
def ML (fb co : Int32 → Int32) (b : MT) (w : BT) : Prop := w.1 = b.1 ∧ ∀ j, j < b.1 → ∃ t, t < 21609 ∧ alI fb t ∧ plI co t = w.2 j ∧ b.2.1 j = co (codI t) ∧ rowOf (rowR b.2.2 j) t
theorem pl_le {co : Int32 → Int32} (hc : coOK co) {t k : Nat} (ht : t < k) (hk : k < 21609) : plI co t < plI co k ↔ co (codI t) ≤ co (codI k) := by
  obtain ⟨C, c1, c2⟩ := hc t (by omega)
  obtain ⟨D, d1, d2⟩ := hc k hk
  unfold plI
  rw [c2, d2, show codI t = nI (codT t) from rfl, show codI k = nI (codT k) from rfl, p_lt_N c1 (codT_lt (by omega)) d1 (codT_lt hk), nI_leI (by omega) (by omega)]
  have := codT_mono hk ht
  omega
theorem rowOf_c {f g : Nat → Int32} {t : Nat} (h : rowOf f t) (e : ∀ z, z < 6 → g z = f z) : rowOf g t := by
  obtain ⟨h0, h1, h2, h3, h4, h5⟩ := h
  exact ⟨(e 0 (by decide)).trans h0, (e 1 (by decide)).trans h1, (e 2 (by decide)).trans h2, (e 3 (by decide)).trans h3, (e 4 (by decide)).trans h4, (e 5 (by decide)).trans h5⟩
theorem ML_step (hc : coOK co) {k : Nat} (hk : k < 21609) (ha : alI fb k) {f : Nat → Int32} (hf : rowOf f k) {b : MT} {w : BT} (hw : TopS (SN fb co k) w) (h : ML fb co b w) : ML fb co (m_lay (co (codI k)) f b) (offerB w (plI co k)) := by
  obtain ⟨e1, h2⟩ := h
  obtain ⟨w5, ws, win, -⟩ := hw
  have hnew := SN_new (fb := fb) hc hk
  have hne : ∀ i, i < w.1 → ¬ w.2 i = plI co k := fun i hi e => hnew (e ▸ win i hi)
  have hcmp : ∀ j, j < b.1 → (w.2 j < plI co k ↔ b.2.1 j ≤ co (codI k)) := by
    intro j hj
    obtain ⟨t, t1, t2, t3, t4, t5⟩ := h2 j hj
    obtain ⟨u, u1, u2, u3⟩ := win j (by omega)
    have : t = u := plI_inj hc t1 (by omega) (t3.trans u3.symm)
    subst this
    rw [← t3, t4]; exact pl_le hc u1 hk
  obtain ⟨s1, s2⟩ := m_pos_spec b.2.1 (co (codI k)) b.1
  have sle := m_pos_le b.2.1 (co (codI k)) b.1
  generalize hat : m_pos b.2.1 (co (codI k)) b.1 = at' at s1 s2 sle
  unfold offerB
  by_cases hou : ouR (nI w.1) w.2 (plI co k)
  · rw [if_pos hou]
    have ho := (ouR_iff w5).mp hou
    have h4 : b.2.1 4 ≤ co (codI k) := (hcmp 4 (by omega)).mp (l_le ho.2 (hne 4 (by omega)))
    have : ¬ at' < 5 := by
      intro hlt
      have := s1 4 (by omega) (by omega)
      exact absurd h4 (i_nle.mpr this)
    have em : m_lay (co (codI k)) f b = b := by unfold m_lay; rw [hat, if_neg this]
    rw [em]; exact ⟨e1, h2⟩
  · rw [if_neg hou]
    have hnot : ∀ j, j < 5 → b.1 = 5 → j = 4 → co (codI k) < b.2.1 j := by
      intro j hj hb5 hj4
      subst hj4
      refine i_nle.mp (fun hh => hou ((ouR_iff w5).mpr ⟨by omega, l_ltle ((hcmp 4 (by omega)).mpr hh)⟩))
    have hat5 : at' < 5 := by
      refine Nat.lt_of_not_le (fun hh => ?_)
      have hb5 : b.1 = 5 := by omega
      have he : at' = 5 := by omega
      rcases s2 with z | z
      · omega
      · rw [he] at z
        exact absurd z (i_nle.mpr (hnot 4 (by decide) hb5 rfl))
    have key : ∀ a : Nat, a = mn4 b.1 → a ≤ 4 → a ≤ b.1 → (a = b.1 ∨ (b.1 = 5 ∧ a = 4)) → ML fb co (m_lay (co (codI k)) f b) (a + 1, offA w.2 (plI co k) a) := by
      intro a ham ha4 hab hcs
      obtain ⟨t, t1, t2, t3, t4, t5⟩ := offA_spec (plI co k) a w.2 (fun i j hi hj => ws i j hi (by omega)) (fun i hi => hne i (by omega))
      have hat_t : at' = t := by
        rcases Nat.lt_trichotomy at' t with z | z | z
        · have z1 := s1 at' (Nat.le_refl _) (by omega)
          have z2 := (hcmp at' (by omega)).mp (t2 at' z).2
          exact absurd z2 (i_nle.mpr z1)
        · exact z
        · rcases s2 with y | y
          · omega
          · have z1 : co (codI k) < b.2.1 (at' - 1) := by
              by_cases hj : at' - 1 < a
              · have := (t4 (at' - 1 + 1) (by omega) (by omega)).2
                rw [Nat.add_sub_cancel] at this
                refine i_nle.mp (fun hh => l_irr (l_tr this ((hcmp _ (by omega)).mpr hh)))
              · rcases hcs with hcs | hcs
                · omega
                · exact hnot (at' - 1) (by omega) hcs.1 (by omega)
            exact absurd y (i_nle.mpr z1)
      subst hat_t
      have em : m_lay (co (codI k)) f b = (kpR b.1, upd (shC at' (mn4 b.1 - at') b.2.1) at' (co (codI k)), stc (shR at' (mn4 b.1 - at') b.2.2) at' f 6) := by unfold m_lay; rw [hat, if_pos hat5]
      rw [em]
      have hk1 : kpR b.1 = a + 1 := by
        unfold kpR; unfold mn4 at ham
        split <;> split at ham <;> omega
      refine ⟨hk1.symm, fun j hj => ?_⟩
      have hja : j < a + 1 := by
        have hj' : j < kpR b.1 := hj
        omega
      show ∃ t, t < 21609 ∧ alI fb t ∧ plI co t = offA w.2 (plI co k) a j ∧ upd (shC at' (mn4 b.1 - at') b.2.1) at' (co (codI k)) j = co (codI t) ∧ rowOf (rowR (stc (shR at' (mn4 b.1 - at') b.2.2) at' f 6) j) t
      rcases Nat.lt_trichotomy j at' with z | z | z
      · obtain ⟨t, u1, u2, u3, u4, u5⟩ := h2 j (by omega)
        refine ⟨t, u1, u2, by rw [(t2 j z).1]; exact u3, ?_, rowOf_c u5 (fun y hy => ?_)⟩
        · rw [pk_un (by omega), shC_at, if_neg (by omega)]; exact u4
        · show stc _ _ _ _ (6 * j + y) = _
          rw [stc_at, if_neg (by omega), shR_at _ _ _ _ _ hy, if_neg (by omega)]
      · subst z
        refine ⟨k, hk, ha, t3.symm, pk_us, rowOf_c hf (fun y hy => ?_)⟩
        show stc _ _ _ _ (6 * j + y) = _
        rw [stc_at, if_pos (by omega)]
        congr 1; omega
      · obtain ⟨t, u1, u2, u3, u4, u5⟩ := h2 (j - 1) (by omega)
        refine ⟨t, u1, u2, by rw [(t4 j z (by omega)).1]; exact u3, ?_, rowOf_c u5 (fun y hy => ?_)⟩
        · rw [pk_un (by omega), shC_at, if_pos (by omega)]; exact u4
        · show stc _ _ _ _ (6 * j + y) = _
          rw [stc_at, if_neg (by omega), shR_at _ _ _ _ _ hy, if_pos (by omega)]
    by_cases hb5 : w.1 < 5
    · rw [if_pos hb5]
      have := key w.1 (by unfold mn4; split <;> omega) (by omega) (by omega) (Or.inl e1)
      exact this
    · rw [if_neg hb5]
      have hw5 : w.1 = 5 := by omega
      have := key 4 (by unfold mn4; split <;> omega) (by omega) (by omega) (Or.inr ⟨by omega, rfl⟩)
      rw [hw5]; exact this
end ROUND
