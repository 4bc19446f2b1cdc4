/-! the questions that leave all as it is -/
theorem chan_n {c : Int32} (h : isChan c) : ∃ i, i < 4 ∧ c = nI i := by
  obtain ⟨j, hj, e⟩ := nI_of (i_nlt.mpr h.1)
  refine ⟨j, ?_, e⟩
  have := h.2
  rw [e, show (4 : Int32) = nI 4 from rfl, nI_ltI hj (by decide)] at this
  exact this
theorem chan_i {i : Nat} (h : i < 4) : isChan (nI i) := by
  refine ⟨nI_pos' (by omega), ?_⟩
  rw [show (4 : Int32) = nI 4 from rfl, nI_ltI (by omega) (by decide)]; exact h
theorem chr_get {c : Int32} {f : Nat → Int32} (h : Chr c f) : g_mark c = g_named (f 0) ∧ g_agg c = f 1 ∧ (∀ k, k < 4 → g_col c (nI k) = f (2 + k)) ∧ ¬ c = -1 := by
  obtain ⟨t, ht, hd, rfl, f0, f1, f2, f3, f4, f5⟩ := h
  have hg := dgt_t ht
  have e : codI t = cod (dm t) (da t) (d0 t) (d1 t) (d2 t) (d3 t) := rfl
  refine ⟨?_, ?_, fun k hk => ?_, fun z => ?_⟩
  · rw [e, cod_mark hg, f0, named_mkN hg.1]
  · rw [e, cod_agg hg, f1]
  · rcases (show k = 0 ∨ k = 1 ∨ k = 2 ∨ k = 3 by omega) with rfl | rfl | rfl | rfl
    · exact (cod_c0 hg).trans f2.symm
    · exact (cod_c1 hg).trans f3.symm
    · exact (cod_c2 hg).trans f4.symm
    · exact (cod_c3 hg).trans f5.symm
  · have h1 := codT_lt ht
    have h2 : ¬ codI t < 0 := nI_pos (by omega)
    rw [z] at h2
    exact h2 (by decide)
theorem pick_get {I : Nat → Int32} {A : Nat → Nat → Int32} (hR : Rst I A) : (I 12 = -1 ∧ I 28 = 0) ∨ (¬ I 12 = -1 ∧ ¬ I 28 = 0 ∧ Chr (I 12) (A 31)) := by
  rcases hR.2.1 with z | z
  · exact Or.inl ⟨z.1, z.2.1⟩
  · exact Or.inr ⟨(chr_get z.2).2.2.2, by rw [z.1]; decide, z.2⟩
theorem rel_nw {n : Nat} {I I' : Nat → Int32} {A A' : Nat → Nat → Int32} {L L' : Nat → Nat → Int64} {O' : Nat → UInt64} (hT : Tbl n I' A' L') (hW : Wsh I' A') (hR : Rst I' A') (e1 : f_fb I' A' = f_fb I A) (e2 : f_cost I' A' L' = f_cost I A L)
    (hC : CaC (f_fb I A) (f_cost I A L) I' L') (hM : CaM (f_fb I A) (f_cost I A L) I' A') : Rel I' A' L' O' := by
  refine ⟨n, hT, hW, hR, ?_, ?_⟩
  · rw [e1, e2]; exact hC
  · rw [e1, e2]; exact hM
/-- after a change: nothing is ranked -/
theorem rel_st {n : Nat} {I I' : Nat → Int32} {A' : Nat → Nat → Int32} {L L' : Nat → Nat → Int64} {O' : Nat → UInt64} {fb co : Int32 → Int32} (hC : CaC fb co I L) (i6 : I' 6 = 1) (i7 : I' 7 = I 7) (i29 : I' 29 = 0) (hT : Tbl n I' A' L') (hW : Wsh I' A') (hR : Rst I' A') : Rel I' A' L' O' := by
  obtain ⟨k, k5, k7, -⟩ := hC
  exact ⟨n, hT, hW, hR, CaC_1 i6 k5 (i7.trans k7), Or.inl i29⟩
theorem st_rows {X : XS} : LStep X Rel 466 := by
  intro Q I A L O ii bC bS hX hi hr zc
  obtain ⟨n, hT, hW, hR, hC, hM⟩ := id hr
  exact opA_rows hX hi (opB_rows hX hi ⟨hT.2.1.trans hT.2.2.1.symm, zc _ _ _ _ (rel_26 hr 0)⟩)
theorem st_formerPicks {X : XS} : LStep X Rel 1827 := by
  intro Q I A L O ii bC bS hX hi hr zc
  obtain ⟨n, hT, hW, hR, hC, hM⟩ := id hr
  obtain ⟨q, -, q1, q2, -⟩ := hR.2.2.1
  exact opA_formerPicks hX hi (opB_formerPicks hX hi ⟨q1.trans q2.symm, zc _ _ _ _ (rel_26 hr 0)⟩)
theorem st_different {X : XS} : LStep X Rel 479 := by
  intro Q I A L O ii bC bS hX hi hr zc
  obtain ⟨n, hT, hW, hR, hC, hM⟩ := id hr
  refine opA_different hX hi (fun hc => ?_) (fun hc => ?_)
  · refine opB_different hX hi hT.2.2.1 hT.1 (fun hn => absurd hc hn) (fun j hj e => ⟨rfl, ?_, zc _ _ _ _ (rel_35 hr _ _)⟩)
    show (f_differentIn A (X.2 (ii + 1))).toInt64 = (stDif (mv A j) n).toInt64
    rw [e, (mkd_e hT hj).2.1]; unfold f_differentIn; rw [if_pos (nI6 hj).1, (nI6 hj).2]
  · exact opB_different hX hi hT.2.2.1 hT.1 (fun _ => ⟨rfl, zc _ _ _ _ (rel_26 hr _)⟩) (fun j hj e => absurd (by rw [e]; exact isCol_n hj) hc)
theorem st_sumOf {X : XS} : LStep X Rel 535 := by
  intro Q I A L O ii bC bS hX hi hr zc
  obtain ⟨n, hT, hW, hR, hC, hM⟩ := id hr
  refine opA_sumOf hX hi (fun hc => ?_) (fun hc => ?_)
  · refine opB_sumOf hX hi hT.2.2.1 hT.1 (fun hn => absurd hc hn) (fun j hj e => ⟨rfl, ?_, zc _ _ _ _ (rel_35 hr _ _)⟩)
    show f_sumIn L (X.2 (ii + 1)) = stSum (mv A j) n
    rw [e, (mkd_e hT hj).2.2.2]; unfold f_sumIn; rw [if_pos (nI6 hj).1, (nI6 hj).2]
  · exact opB_sumOf hX hi hT.2.2.1 hT.1 (fun _ => ⟨rfl, zc _ _ _ _ (rel_26 hr _)⟩) (fun j hj e => absurd (by rw [e]; exact isCol_n hj) hc)
theorem st_kindOf {X : XS} : LStep X Rel 745 := by
  intro Q I A L O ii bC bS hX hi hr zc
  obtain ⟨n, hT, hW, hR, hC, hM⟩ := id hr
  refine opA_kindOf hX hi (fun hc => ?_) (fun hc => ?_)
  · refine opB_kindOf hX hi hT.2.2.1 hT.1 (fun hn => absurd hc hn) (fun j hj e => ⟨rfl, ?_, zc _ _ _ _ (rel_35 hr _ _)⟩)
    show (f_kindAt A (X.2 (ii + 1))).toInt64 = (mkd A n j).toInt64
    rw [e, (mkd_e hT hj).1]; unfold f_kindAt; rw [if_pos (nI6 hj).1, (nI6 hj).2]
  · exact opB_kindOf hX hi hT.2.2.1 hT.1 (fun _ => ⟨rfl, zc _ _ _ _ (rel_26 hr _)⟩) (fun j hj e => absurd (by rw [e]; exact isCol_n hj) hc)
theorem st_setMargin {X : XS} : LStep X Rel 1576 := by
  intro Q I A L O ii bC bS hX hi hr zc
  obtain ⟨n, hT, hW, hR, hC, hM⟩ := id hr
  refine opA_setMargin hX hi (fun hc => ?_) (fun hc => ?_)
  · exact opB_setMargin hX hi (fun _ => ⟨rfl, zc _ _ _ _ (rel_26 hr _)⟩) (fun h => absurd h hc)
  · refine opB_setMargin hX hi (fun hn => absurd hc hn) (fun _ => ⟨rfl, ?_, zc _ _ _ _ ?_⟩)
    · show (I 0).toInt64 = (I 23).toInt64
      rw [hW.2.2.2.2.2.2.2.1]
    · obtain ⟨w1, w2, w3, w4, w5, w6, w7, w8⟩ := hW
      exact rel_nw (I := I) (A := A) (L := L) (Tbl_c rfl rfl rfl rfl rfl rfl rfl rfl rfl rfl rfl hT) ⟨w1, w2, w3, w4, w5, w6, w7, rfl, hc⟩ (Rst_c rfl rfl rfl rfl rfl rfl rfl rfl rfl rfl hR)
        (fbc rfl rfl rfl rfl) (coc rfl rfl rfl rfl rfl) (CaC_c rfl rfl rfl hC) (CaM_c rfl rfl rfl rfl rfl rfl rfl rfl rfl rfl rfl hM)
theorem st_pickMark {X : XS} : LStep X Rel 1683 := by
  intro Q I A L O ii bC bS hX hi hr zc
  obtain ⟨n, hT, hW, hR, hC, hM⟩ := id hr
  have hp := pick_get hR
  refine opA_pickMark hX hi (fun hc => ?_) (fun hc => ?_)
  · exact opB_pickMark hX hi (fun _ => ⟨rfl, zc _ _ _ _ (rel_26 hr _)⟩) (fun h => hp.elim (fun z => absurd z.2 h) (fun z => absurd z.1 hc))
  · refine opB_pickMark hX hi (fun h => hp.elim (fun z => absurd z.1 hc) (fun z => absurd h z.2.1)) (fun _ => ⟨rfl, ?_, zc _ _ _ _ (rel_35 hr _ _)⟩)
    show (g_mark (I 12)).toInt64 = (g_named (A 31 0)).toInt64
    rw [(chr_get (hp.resolve_left (fun z => hc z.1)).2.2).1]
theorem st_pickAggregate {X : XS} : LStep X Rel 1727 := by
  intro Q I A L O ii bC bS hX hi hr zc
  obtain ⟨n, hT, hW, hR, hC, hM⟩ := id hr
  have hp := pick_get hR
  refine opA_pickAggregate hX hi (fun hc => ?_) (fun hc => ?_)
  · exact opB_pickAggregate hX hi (fun _ => ⟨rfl, zc _ _ _ _ (rel_26 hr _)⟩) (fun h => hp.elim (fun z => absurd z.2 h) (fun z => absurd z.1 hc))
  · refine opB_pickAggregate hX hi (fun h => hp.elim (fun z => absurd z.1 hc) (fun z => absurd h z.2.1)) (fun _ => ⟨rfl, ?_, zc _ _ _ _ (rel_35 hr _ _)⟩)
    show (g_agg (I 12)).toInt64 = (A 31 1).toInt64
    rw [(chr_get (hp.resolve_left (fun z => hc z.1)).2.2).2.1]
theorem st_pickColumn {X : XS} : LStep X Rel 1771 := by
  intro Q I A L O ii bC bS hX hi hr zc
  obtain ⟨n, hT, hW, hR, hC, hM⟩ := id hr
  have hp := pick_get hR
  refine opA_pickColumn hX hi (fun hc => ?_) (fun h1 hc => ?_) (fun h1 hc => ?_)
  · exact opB_pickColumn hX hi (fun _ => ⟨rfl, zc _ _ _ _ (rel_26 hr _)⟩) (fun h => absurd h hc) (fun i hi4 e => absurd (by rw [e]; exact chan_i hi4) hc)
  · exact opB_pickColumn hX hi (fun h => absurd h1 h) (fun _ _ => ⟨rfl, zc _ _ _ _ (rel_26 hr _)⟩) (fun i hi4 e h => hp.elim (fun z => absurd z.2 h) (fun z => absurd z.1 hc))
  · refine opB_pickColumn hX hi (fun h => absurd h1 h) (fun _ h => hp.elim (fun z => absurd z.1 hc) (fun z => absurd h z.2.1)) (fun i hi4 e _ => ⟨rfl, ?_, zc _ _ _ _ (rel_35 hr _ _)⟩)
    show (g_col (I 12) (X.2 (ii + 1))).toInt64 = (A 31 (2 + i)).toInt64
    rw [e, (chr_get (hp.resolve_left (fun z => hc z.1)).2.2).2.2.1 i hi4]
