/-! forget -/
def kk (ok : Nat → Prop) [DecidablePred ok] (q : Nat) : Nat → Nat × (Nat → Nat)
  | 0 => (0, fun _ => 0)
  | d + 1 => if ok (q - (d + 1)) then ((kk ok q d).1 + 1, fun i => if i = 0 then q - (d + 1) else (kk ok q d).2 (i - 1)) else kk ok q d
section FORGET
variable {q : Nat}
theorem kk_r {ok : Nat → Prop} [DecidablePred ok] : ∀ d, d ≤ q → (kk ok q d).1 ≤ d ∧ ∀ i, i < (kk ok q d).1 → (kk ok q d).2 i < q
  | 0, _ => ⟨Nat.le_refl _, fun i hi => absurd hi (Nat.not_lt_zero i)⟩
  | d + 1, h => by
    obtain ⟨h1, h2⟩ := kk_r (ok := ok) d (by omega)
    rw [kk]
    by_cases hk : ok (q - (d + 1))
    · rw [if_pos hk]
      refine ⟨by show (kk ok q d).1 + 1 ≤ d + 1; omega, fun i hi => ?_⟩
      have hi' : i < (kk ok q d).1 + 1 := hi
      show (if i = 0 then q - (d + 1) else (kk ok q d).2 (i - 1)) < q
      by_cases h0 : i = 0
      · rw [if_pos h0]; omega
      · rw [if_neg h0]; exact h2 (i - 1) (by omega)
    · rw [if_neg hk]; exact ⟨by omega, h2⟩
/-- the class's way -/
theorem drF_k {ok : Nat → Prop} [DecidablePred ok] {okc : Int32 → Prop} [DecidablePred okc] {f0 : Nat → Int32} (hok : ∀ i, i < q → (okc (f0 i) ↔ ok i)) : ∀ (d : Nat) (f : Nat → Int32) (k i : Nat), i + d = q → k ≤ i → (∀ j, i ≤ j → f j = f0 j) →
    (drF okc f k i d).2 = k + (kk ok q d).1 ∧ (∀ j, j < k → (drF okc f k i d).1 j = f j) ∧ ∀ j, j < (kk ok q d).1 → (drF okc f k i d).1 (k + j) = f0 ((kk ok q d).2 j)
  | 0, f, k, i, _, _, _ => ⟨rfl, fun _ _ => rfl, fun j hj => absurd hj (Nat.not_lt_zero j)⟩
  | d + 1, f, k, i, h, hk, hf => by
    have ei : q - (d + 1) = i := by omega
    have e0 := hf i (Nat.le_refl i)
    rw [drF, kk, ei]
    by_cases hc : ok i
    · have hc' : okc (f i) := by rw [e0]; exact (hok i (by omega)).mpr hc
      rw [if_pos hc', if_pos hc]
      obtain ⟨h1, h2, h3⟩ := drF_k hok d (upd f k (f i)) (k + 1) (i + 1) (by omega) (by omega) (fun j hj => by rw [upd_at, if_neg (by omega)]; exact hf j (by omega))
      refine ⟨by show _ = k + ((kk ok q d).1 + 1); omega, fun j hj => ?_, fun j hj => ?_⟩
      · rw [h2 j (by omega), upd_at, if_neg (by omega)]
      · have hj' : j < (kk ok q d).1 + 1 := hj
        show _ = f0 (if j = 0 then i else (kk ok q d).2 (j - 1))
        by_cases h0 : j = 0
        · rw [if_pos h0]
          subst h0
          exact (h2 k (by omega)).trans (by rw [upd_at, if_pos rfl, e0])
        · rw [if_neg h0, ← h3 (j - 1) (by omega), show k + 1 + (j - 1) = k + j by omega]
    · have hc' : ¬ okc (f i) := by rw [e0]; exact fun z => hc ((hok i (by omega)).mp z)
      rw [if_neg hc', if_neg hc]
      exact drF_k hok d f k (i + 1) (by omega) (by omega) (fun j hj => hf j (by omega))
theorem cpr_at (c F : Nat → Int32) (m : Nat) : ∀ (w z : Nat), cpr c F m w z = if z < w then F (6 * m + z) else c z
  | 0, z => by rw [cpr, if_neg (by omega)]
  | w + 1, z => by
    rw [cpr, upd_at]
    by_cases h : z = w
    · rw [if_pos h, if_pos (by omega), h]
    · rw [if_neg h, cpr_at c F m w]
      by_cases h2 : z < w
      · rw [if_pos h2, if_pos (by omega)]
      · rw [if_neg h2, if_neg (by omega)]
/-- the model's way -/
theorem mFg_k {ok : Nat → Prop} [DecidablePred ok] {fb : (Nat → Int32) → Int32} {F0 : Nat → Int32} (hok : ∀ m g, m < q → (∀ z, z < 6 → g z = F0 (6 * m + z)) → (fb g = 0 ↔ ok m)) : ∀ (m : Nat) (s : FS), m ≤ q → s.2.1 = m + (kk ok q (q - m)).1 → s.2.2.1 = q - m - (kk ok q (q - m)).1 →
    (∀ i z, i < m → z < 6 → s.1 (6 * i + z) = F0 (6 * i + z)) → (∀ i z, i < (kk ok q (q - m)).1 → z < 6 → s.1 (6 * (m + i) + z) = F0 (6 * (kk ok q (q - m)).2 i + z)) →
    (mFg fb m s).2.1 = (kk ok q q).1 ∧ (mFg fb m s).2.2.1 = q - (kk ok q q).1 ∧ ∀ i z, i < (kk ok q q).1 → z < 6 → (mFg fb m s).1 (6 * i + z) = F0 (6 * (kk ok q q).2 i + z)
  | 0, s, _, h1, h2, _, h4 => by
    rw [Nat.sub_zero] at h1 h2 h4
    rw [Nat.zero_add] at h1
    refine ⟨h1, h2, fun i z hi hz => ?_⟩
    have := h4 i z hi hz
    rw [Nat.zero_add] at this
    exact this
  | m + 1, s, hm, h1, h2, h3, h4 => by
    have ed : q - m = (q - (m + 1)) + 1 := by omega
    have em : q - (q - (m + 1) + 1) = m := by omega
    have hr := (kk_r (ok := ok) (q := q) (q - (m + 1)) (by omega)).1
    rw [mFg]
    have hcp : ∀ z, z < 6 → cpr s.2.2.2 s.1 m 6 z = F0 (6 * m + z) := by
      intro z hz
      rw [cpr_at, if_pos hz]; exact h3 m z (by omega) hz
    have hb := hok m _ (by omega) hcp
    have key : kk ok q (q - m) = if ok m then ((kk ok q (q - (m + 1))).1 + 1, fun i => if i = 0 then m else (kk ok q (q - (m + 1))).2 (i - 1)) else kk ok q (q - (m + 1)) := by
      rw [ed, kk, em]
    unfold mFs
    by_cases hc : ok m
    · rw [if_pos (hb.mpr hc)]
      rw [if_pos hc] at key
      refine mFg_k hok m _ (by omega) ?_ ?_ (fun i z hi hz => h3 i z (by omega) hz) (fun i z hi hz => ?_)
      · show s.2.1 = _
        rw [key, h1]; show _ = m + ((kk ok q (q - (m + 1))).1 + 1); omega
      · show s.2.2.1 = _
        rw [key, h2]; show _ = q - m - ((kk ok q (q - (m + 1))).1 + 1); omega
      · show s.1 (6 * (m + i) + z) = _
        rw [key] at hi ⊢
        have hi' : i < (kk ok q (q - (m + 1))).1 + 1 := hi
        show _ = F0 (6 * (if i = 0 then m else (kk ok q (q - (m + 1))).2 (i - 1)) + z)
        by_cases h0 : i = 0
        · rw [if_pos h0, h0, Nat.add_zero]; exact h3 m z (by omega) hz
        · rw [if_neg h0, ← h4 (i - 1) z (by omega) hz, show 6 * (m + 1 + (i - 1)) + z = 6 * (m + i) + z by omega]
    · rw [if_neg (fun z => hc (hb.mp z))]
      rw [if_neg hc] at key
      refine mFg_k hok m _ (by omega) ?_ ?_ (fun i z hi hz => ?_) (fun i z hi hz => ?_)
      · show s.2.1 - 1 = _
        rw [key, h1]; omega
      · show s.2.2.1 + 1 = _
        rw [key, h2]; omega
      · show mDrp s.1 (6 * m) (6 * (s.2.1 - 1) - 6 * m) (6 * i + z) = _
        rw [mDrp_at, if_neg (by omega)]; exact h3 i z (by omega) hz
      · show mDrp s.1 (6 * m) (6 * (s.2.1 - 1) - 6 * m) (6 * (m + i) + z) = _
        rw [key] at hi ⊢
        rw [mDrp_at, if_pos (by omega), ← h4 i z hi hz, show 6 * (m + 1 + i) + z = 6 * (m + i) + z + 6 by omega]
end FORGET
theorem CaM_kn {n : Nat} {I P : Nat → Int32} {A D : Nat → Nat → Int32} {L : Nat → Nat → Int64} {fb co : Int32 → Int32} (hT : Tbl n I A L) (h : CaM fb co I A) (p1 : P 1 = I 1) (p22 : P 22 = I 22) (p24 : P 24 = I 24) (p25 : P 25 = I 25) (p29 : P 29 = I 29)
    (d4 : D 4 = A 4) (d6 : D 6 = A 6) (d32 : D 32 = A 32) (d33 : D 33 = A 33) (d25 : ∀ c, c < 6 → D 25 c = mkd A n c) (d26 : ∀ c, c < 6 → D 26 c = stDif (mv A c) n) : CaM fb co P D := by
  rcases h with z | ⟨-, z⟩
  · exact Or.inl (p29.trans z)
  · refine Or.inr ⟨fun c hc => ?_, ?_⟩
    · obtain ⟨e1, e2, -⟩ := mkd_e hT hc
      rw [d25 c hc, d26 c hc, d4, d6]; exact ⟨e1, e2⟩
    · rw [p1, p22, p24, p25, d32, d33]; exact z
theorem forget_rel {n q c : Nat} {I : Nat → Int32} {A K : Nat → Nat → Int32} {L : Nat → Nat → Int64} {O' : Nat → UInt64} {dr F g9 : Nat → Int32} (hT : Tbl n I A L) (hW : Wsh I A) (hR : Rst I A) (hC : CaC (f_fb I A) (f_cost I A L) I L) (hM : CaM (f_fb I A) (f_cost I A L) I A) (q21 : I 21 = nI q) (q4 : q ≤ 4) (hc : c ≤ q)
    (x1 : ∀ x, ¬ x = 25 → ¬ x = 26 → K x = va_up A 20 dr x) (x2 : ∀ j, j < 6 → K 25 j = mkd (va_up A 20 dr) n j ∧ K 26 j = stDif (mv (va_up A 20 dr) j) n) (hch : ∀ i, i < c → Chr (dr i) (rowR F i)) :
    Rel (va_up (va_up (va_up I 11 (nI c)) 26 0) 21 (nI c)) (va_up (va_up K 29 g9) 34 F) L O' := by
  obtain ⟨r1, r2, -, r18⟩ := hR
  refine rel_P (I := I) (A := A) (L := L) rfl rfl rfl rfl rfl rfl rfl rfl (x1 2 (by decide) (by decide)) (x1 3 (by decide) (by decide)) (x1 4 (by decide) (by decide)) (x1 5 (by decide) (by decide)) (x1 6 (by decide) (by decide)) (x1 11 (by decide) (by decide)) (x1 22 (by decide) (by decide)) (x1 23 (by decide) (by decide)) (x1 24 (by decide) (by decide)) (x1 27 (by decide) (by decide)) (x1 28 (by decide) (by decide)) rfl rfl hT hW ?_ (CaC_c rfl rfl rfl hC)
    (CaM_kn hT hM rfl rfl rfl rfl rfl (x1 4 (by decide) (by decide)) (x1 6 (by decide) (by decide)) (x1 32 (by decide) (by decide)) (x1 33 (by decide) (by decide)) (fun c hc => (x2 c hc).1.trans (mkd_c rfl rfl n c)) (fun c hc => (x2 c hc).2))
  have d30 : K 30 = A 30 := x1 30 (by decide) (by decide)
  have d31 : K 31 = A 31 := x1 31 (by decide) (by decide)
  have d20 : K 20 = dr := x1 20 (by decide) (by decide)
  refine ⟨?_, ?_, ⟨c, by omega, rfl, rfl, fun i hi' => ?_⟩, (x1 18 (by decide) (by decide)).trans r18⟩
  · show Chr (I 1) (K 30)
    rw [d30]; exact r1
  · show (I 12 = -1 ∧ I 28 = 0 ∧ vch (K 31) ∧ nI c = 0) ∨ (I 28 = 1 ∧ Chr (I 12) (K 31))
    rw [d31]
    rcases r2 with z | z
    · refine Or.inl ⟨z.1, z.2.1, z.2.2.1, ?_⟩
      have h0 : q = 0 := by
        have z4 := z.2.2.2
        rw [q21, show (0 : Int32) = nI 0 from rfl, nI_eq (by omega) (by omega)] at z4; exact z4
      rw [show c = 0 by omega]; rfl
    · exact Or.inr z
  · show Chr (K 20 i) (rowR F i)
    rw [d20]
    exact hch i hi'
theorem st_forget {X : XS} : LStep X Rel 1884 := by
  intro Q I A L O ii bC bS hX hi hr zc
  obtain ⟨n, hT, hW, hR, hC, hM⟩ := id hr
  obtain ⟨r1, r2, ⟨q, q4, q11, q21, qr⟩, r18⟩ := id hR
  refine opA_forget hX hi q11 q4 ?_
  have hA := drF_k (ok := fun i => f_fb I A (A 20 i) = 0) (okc := okC I A) (f0 := A 20) (q := q) (fun i _ => Iff.rfl) q (A 20) 0 0 (by omega) (Nat.le_refl 0) (fun _ _ => rfl)
  obtain ⟨a1, -, a3⟩ := hA
  rw [Nat.zero_add] at a1
  generalize drF (okC I A) (A 20) 0 0 q = dr at a1 a3 ⊢
  have hv : ∀ i, i < q → vrow (A 34) i := fun i hi' c hc => chr_vch (qr i hi') c hc
  have hT1 : Tbl n I (va_up A 20 dr.1) L := Tbl_c rfl rfl rfl rfl rfl rfl rfl rfl rfl rfl rfl hT
  obtain ⟨x1, x2⟩ := knd_x (va_up A 20 dr.1) n 6
  have hL : Link n I A L (kndA (va_up A 20 dr.1) n 6) := by
    refine link_of hT hW (x1 22 (by decide) (by decide)) (x1 24 (by decide) (by decide)) (x1 27 (by decide) (by decide)) (x1 28 (by decide) (by decide)) (fun c hc => ?_)
    obtain ⟨e1, e2, -⟩ := mkd_e hT1 hc
    rw [(x2 c hc).1, (x2 c hc).2]; exact ⟨e1, e2⟩
  have e34 : kndA (va_up A 20 dr.1) n 6 34 = A 34 := x1 34 (by decide) (by decide)
  have i27 : (va_up I 11 (nI dr.2)) 27 = I 27 := rfl
  have i20 : (va_up I 11 (nI dr.2)) 20 = nI n := hT.2.2.1
  have i21 : (va_up I 11 (nI dr.2)) 21 = nI q := q21
  have hB := mFg_k (ok := fun i => f_fb I A (A 20 i) = 0) (q := q) (fb := m_fb (I 27) (kndA (va_up A 20 dr.1) n 6)) (F0 := A 34) (fun m g hm hg => by rw [fb_chr hW hL (chr_c (qr m hm) hg)]) q (kndA (va_up A 20 dr.1) n 6 34, q, 0, kndA (va_up A 20 dr.1) n 6 29) (Nat.le_refl q)
    (by rw [Nat.sub_self]; rfl) (by rw [Nat.sub_self]; rfl) (fun i z _ _ => by show kndA (va_up A 20 dr.1) n 6 34 _ = _; rw [e34]) (fun i z hi' _ => by rw [Nat.sub_self] at hi'; exact absurd hi' (Nat.not_lt_zero i))
  obtain ⟨S, hS⟩ : ∃ S, mFg (m_fb (I 27) (kndA (va_up A 20 dr.1) n 6)) q (kndA (va_up A 20 dr.1) n 6 34, q, 0, kndA (va_up A 20 dr.1) n 6 29) = S := ⟨_, rfl⟩
  rw [hS] at hB
  obtain ⟨b1, b2, b3⟩ := hB
  obtain ⟨g1, g2⟩ := kk_r (ok := fun i => f_fb I A (A 20 i) = 0) (q := q) q (Nat.le_refl q)
  refine opB_forget hX hi i20 hT.1 i21 q4 hv (S := S) hS ⟨?_, zc _ _ _ _ ?_⟩
  · rw [a1, b2, pk_sub g1]
  · have hch : ∀ i, i < dr.2 → Chr (dr.1 i) (rowR S.1 i) := by
      intro i hi'
      rw [a1] at hi'
      have := a3 i hi'
      rw [Nat.zero_add] at this
      rw [this]
      exact chr_c (qr _ (g2 i hi')) (fun z hz => b3 i z hi' hz)
    rw [b1, ← a1]
    exact forget_rel hT hW hR hC hM q21 q4 (by omega) x1 x2 hch
