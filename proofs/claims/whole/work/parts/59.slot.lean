/-! a column of the draft -/
theorem x_of {x : Int32} (h : x = -1 ∨ isCol x) : ∃ t, t < 7 ∧ x = xI t := by
  rcases h with h | h
  · exact ⟨0, by decide, h.trans xI_0.symm⟩
  · obtain ⟨j, hj, e⟩ := isCol_of h
    exact ⟨j + 1, by omega, e.trans (xI_s j).symm⟩
theorem xI_e {a b : Nat} (ha : a < 7) (hb : b < 7) : xI a = xI b ↔ a = b := ⟨xI_inj ha hb, fun z => by rw [z]⟩
section SLOT
variable {A : Nat → Nat → Int32} {m a s0 s1 s2 s3 i t : Nat}
def sof (s0 s1 s2 s3 i : Nat) : Nat := if i = 0 then s0 else if i = 1 then s1 else if i = 2 then s2 else s3
def elN (s0 s1 s2 s3 i t : Nat) : Prop := ¬ t = sof s0 s1 s2 s3 i ∧ ¬ t = 0 ∧ (t = s0 ∨ t = s1 ∨ t = s2 ∨ t = s3)
theorem col_i (hg : dgt m a s0 s1 s2 s3) (hi : i < 4) : g_col (cod m a s0 s1 s2 s3) (nI i) = xI (sof s0 s1 s2 s3 i) ∧ sof s0 s1 s2 s3 i < 7 := by
  obtain ⟨-, -, g3, g4, g5, g6⟩ := id hg
  rcases (show i = 0 ∨ i = 1 ∨ i = 2 ∨ i = 3 by omega) with rfl | rfl | rfl | rfl
  · exact ⟨cod_c0 hg, g3⟩
  · exact ⟨cod_c1 hg, g4⟩
  · exact ⟨cod_c2 hg, g5⟩
  · exact ⟨cod_c3 hg, g6⟩
theorem elA (hg : dgt m a s0 s1 s2 s3) (hi : i < 4) (ht : t < 7) : (¬ xI t = g_col (cod m a s0 s1 s2 s3) (nI i) ∧ g_holds (cod m a s0 s1 s2 s3) (xI t)) ↔ elN s0 s1 s2 s3 i t := by
  obtain ⟨c1, c2⟩ := col_i hg hi
  rw [cod_holds hg ht, c1, xI_e ht c2]
  exact Iff.rfl
theorem elB (hg : dgt m a s0 s1 s2 s3) (hd : dist s0 s1 s2 s3) (hf : digF (A 30) m a s0 s1 s2 s3) (hi : i < 4) (ht : t < 7) : m_els A i (xI t) ↔ elN s0 s1 s2 s3 i t := by
  obtain ⟨-, -, f2, f3, f4, f5⟩ := hf
  obtain ⟨-, -, g3, g4, g5, g6⟩ := hg
  have n0 : nI 0 = nI i ↔ 0 = i := nI_eq (by omega) (by omega)
  have n1 : nI 1 = nI i ↔ 1 = i := nI_eq (by omega) (by omega)
  have n2 : nI 2 = nI i ↔ 2 = i := nI_eq (by omega) (by omega)
  have n3 : nI 3 = nI i ↔ 3 = i := nI_eq (by omega) (by omega)
  unfold m_els m_el
  rw [show A 30 (2 + 0) = xI s0 from f2, show A 30 (2 + 1) = xI s1 from f3, show A 30 (2 + 2) = xI s2 from f4, show A 30 (2 + 3) = xI s3 from f5, xI_ge ht, xI_e g3 ht, xI_e g4 ht, xI_e g5 ht, xI_e g6 ht, n0, n1, n2, n3]
  unfold elN
  unfold dist at hd
  rcases (show i = 0 ∨ i = 1 ∨ i = 2 ∨ i = 3 by omega) with rfl | rfl | rfl | rfl
  · show _ ↔ ¬ t = s0 ∧ _; omega
  · show _ ↔ ¬ t = s1 ∧ _; omega
  · show _ ↔ ¬ t = s2 ∧ _; omega
  · show _ ↔ ¬ t = s3 ∧ _; omega
theorem slot_new {f : Nat → Int32} (hg : dgt m a s0 s1 s2 s3) (hd : dist s0 s1 s2 s3) (hf : digF f m a s0 s1 s2 s3) (hi : i < 4) (ht : t < 7) (hn : ¬ elN s0 s1 s2 s3 i t) : Chr (g_wCol (cod m a s0 s1 s2 s3) (nI i) (xI t)) (upd f (2 + i) (xI t)) := by
  obtain ⟨f0, f1, f2, f3, f4, f5⟩ := hf
  obtain ⟨g1, g2, g3, g4, g5, g6⟩ := id hg
  unfold elN at hn
  unfold dist at hd
  rcases (show i = 0 ∨ i = 1 ∨ i = 2 ∨ i = 3 by omega) with rfl | rfl | rfl | rfl
  · have hn' : ¬ (¬ t = s0 ∧ ¬ t = 0 ∧ (t = s0 ∨ t = s1 ∨ t = s2 ∨ t = s3)) := hn
    rw [show g_wCol (cod m a s0 s1 s2 s3) (nI 0) (xI t) = _ from cod_w0 hg ht]
    exact chr_mk ⟨g1, g2, ht, g4, g5, g6⟩ (by unfold dist; omega) ⟨(pk_un (by decide)).trans f0, (pk_un (by decide)).trans f1, pk_us, (pk_un (by decide)).trans f3, (pk_un (by decide)).trans f4, (pk_un (by decide)).trans f5⟩
  · have hn' : ¬ (¬ t = s1 ∧ ¬ t = 0 ∧ (t = s0 ∨ t = s1 ∨ t = s2 ∨ t = s3)) := hn
    rw [show g_wCol (cod m a s0 s1 s2 s3) (nI 1) (xI t) = _ from cod_w1 hg ht]
    exact chr_mk ⟨g1, g2, g3, ht, g5, g6⟩ (by unfold dist; omega) ⟨(pk_un (by decide)).trans f0, (pk_un (by decide)).trans f1, (pk_un (by decide)).trans f2, pk_us, (pk_un (by decide)).trans f4, (pk_un (by decide)).trans f5⟩
  · have hn' : ¬ (¬ t = s2 ∧ ¬ t = 0 ∧ (t = s0 ∨ t = s1 ∨ t = s2 ∨ t = s3)) := hn
    rw [show g_wCol (cod m a s0 s1 s2 s3) (nI 2) (xI t) = _ from cod_w2 hg ht]
    exact chr_mk ⟨g1, g2, g3, g4, ht, g6⟩ (by unfold dist; omega) ⟨(pk_un (by decide)).trans f0, (pk_un (by decide)).trans f1, (pk_un (by decide)).trans f2, (pk_un (by decide)).trans f3, pk_us, (pk_un (by decide)).trans f5⟩
  · have hn' : ¬ (¬ t = s3 ∧ ¬ t = 0 ∧ (t = s0 ∨ t = s1 ∨ t = s2 ∨ t = s3)) := hn
    rw [show g_wCol (cod m a s0 s1 s2 s3) (nI 3) (xI t) = _ from cod_w3 hg ht]
    exact chr_mk ⟨g1, g2, g3, g4, g5, ht⟩ (by unfold dist; omega) ⟨(pk_un (by decide)).trans f0, (pk_un (by decide)).trans f1, (pk_un (by decide)).trans f2, (pk_un (by decide)).trans f3, (pk_un (by decide)).trans f4, pk_us⟩
end SLOT
theorem st_draftColumn {X : XS} : LStep X Rel 2011 := by
  intro Q I A L O ii bC bS hX hi hr zc
  obtain ⟨n, hT, hW, hR, hC, hM⟩ := id hr
  obtain ⟨m, a, s0, s1, s2, s3, hg, hd, he, hf⟩ := chr_ex hR.1
  refine opA_draftColumn hX hi (fun hc => ?_) (fun k1 k2 hc => ?_) (fun k1 k2 hc => ?_)
  · exact opB_draftColumn hX hi (fun _ => ⟨rfl, zc _ _ _ _ (rel_26 hr _)⟩) (fun i hi4 e h => absurd ⟨by rw [e]; exact chan_i hi4, h⟩ hc) (fun i hi4 e h => absurd ⟨by rw [e]; exact chan_i hi4, h⟩ hc)
  · refine opB_draftColumn hX hi (fun h => absurd ⟨k1, k2⟩ h) (fun _ _ _ _ _ => ⟨rfl, zc _ _ _ _ (rel_26 hr _)⟩) (fun i hi4 e h hn => ?_)
    obtain ⟨t, ht, et⟩ := x_of k2
    rw [e, et, he, elA hg hi4 ht] at hc
    rw [et] at hn
    exact absurd ((elB (A := A) hg hd hf hi4 ht).mpr hc) hn
  · obtain ⟨t, ht, et⟩ := x_of k2
    refine opB_draftColumn hX hi (fun h => absurd ⟨k1, k2⟩ h) (fun i hi4 e h hn => ?_) (fun i hi4 e h hn => ⟨rfl, ?_, zc _ _ _ _ ?_⟩)
    · rw [e, et, he, elA hg hi4 ht] at hc
      have hn' : m_els A i (X.2 (ii + 2)) := hn
      rw [et] at hn'
      exact absurd ((elB (A := A) hg hd hf hi4 ht).mp hn') hc
    · show (g_col (I 1) (X.2 (ii + 1))).toInt64 = (A 30 (2 + i)).toInt64
      rw [e, (chr_get hR.1).2.2.1 i hi4]
    · rw [e, et, he, elA hg hi4 ht] at hc
      have hn : Chr (g_wCol (I 1) (X.2 (ii + 1)) (X.2 (ii + 2))) (upd (A 30) (2 + i) (X.2 (ii + 2))) := by
        rw [e, et, he]
        exact slot_new hg hd hf hi4 ht hc
      exact rel_dr (I := I) (A := A) (L := L) (Tbl_c rfl rfl rfl rfl rfl rfl rfl rfl rfl rfl rfl hT) (Wsh_c rfl rfl rfl rfl rfl rfl rfl rfl rfl rfl hW) ⟨hn, hR.2.1, hR.2.2.1, hR.2.2.2⟩ (fbc rfl rfl rfl rfl) (coc rfl rfl rfl rfl rfl) (CaC_c rfl rfl rfl hC) rfl
