/-! the draft -/
section DRAFT
variable {n : Nat} {I I' : Nat → Int32} {A : Nat → Nat → Int32} {L L' : Nat → Nat → Int64} {O' : Nat → UInt64} {fb co : Int32 → Int32}
theorem mk_any (hT : Tbl n I A L) (hW : Wsh I A) (hR : Rst I A) (hM : CaM (f_fb I A) (f_cost I A L) I A) (hI : SI I' I) (i22 : I' 22 = I 22) (i24 : I' 24 = I 24) (i25 : I' 25 = I 25) (i29 : I' 29 = I 29) : MK (f_fb I A) (f_cost I A L) (mkI I' n A) (mkA I' n A) := by
  have e1 := fb_s (A := A) hI SA_r
  have e2 := co_s (A := A) (L := L) (L' := L) hI SA_r rfl
  obtain ⟨h0, h1, h2, h3, h4, h5, h11, h12, h20, h21, h23, h27, h28⟩ := hI
  rw [← e1, ← e2]
  refine mk_ok (Tbl_c h2 h20 rfl rfl rfl rfl rfl rfl rfl rfl rfl hT) (Wsh_c h0 h3 h4 h5 h23 h27 rfl rfl rfl rfl hW) (h1.symm ▸ hR.1) ?_
  rw [e1, e2]
  exact CaM_c i29 h1 i22 i24 i25 rfl rfl rfl rfl rfl rfl hM
theorem mk_link (hT : Tbl n I A L) (hW : Wsh I A) (h : MK fb co (mkI I' n A) (mkA I' n A)) : Link n I A L (mkA I' n A) := by
  refine link_of hT hW (mk_fA 22 (by decide) (by decide) (by decide) (by decide) (by decide)) (mk_fA 24 (by decide) (by decide) (by decide) (by decide) (by decide)) (mk_fA 27 (by decide) (by decide) (by decide) (by decide) (by decide)) (mk_fA 28 (by decide) (by decide) (by decide) (by decide) (by decide)) (fun c hc => ?_)
  have := h.1 c hc
  rw [mk_fA 4 (by decide) (by decide) (by decide) (by decide) (by decide), mk_fA 6 (by decide) (by decide) (by decide) (by decide) (by decide)] at this
  exact this
theorem rel_mk (hT : Tbl n I A L) (hW : Wsh I A) (hR : Rst I A) (h : MK (f_fb I A) (f_cost I A L) (mkI I' n A) (mkA I' n A)) (hI : SI I' I) (l7 : L' 7 = L 7) (l8 : L' 8 = L 8) (hC : CaC (f_fb I A) (f_cost I A L) I' L') (e : Int32) : Rel (va_up (mkI I' n A) 26 e) (mkA I' n A) L' O' :=
  rel_rd (SI_mk e hI) SA_mk l7 l8 hT hW hR (CaC_c (I := I') (L := L') (mk_fI 6 (by decide) (by decide) (by decide) (by decide)) (mk_fI 7 (by decide) (by decide) (by decide) (by decide)) rfl hC) (Or.inr (MK_c rfl rfl rfl rfl rfl rfl rfl rfl rfl rfl h))
theorem rel_kn (hT : Tbl n I A L) (hW : Wsh I A) (hR : Rst I A) (hM : CaM (f_fb I A) (f_cost I A L) I A) (l7 : L' 7 = L 7) (l8 : L' 8 = L 8) (hC : CaC (f_fb I A) (f_cost I A L) I L') (e : Int32) : Rel (va_up I 26 e) (kndA A n 6) L' O' := by
  refine rel_rd (I' := va_up I 26 e) ⟨rfl, rfl, rfl, rfl, rfl, rfl, rfl, rfl, rfl, rfl, rfl, rfl, rfl⟩ SA_kn l7 l8 hT hW hR (CaC_c rfl rfl rfl hC) ?_
  rcases hM with z | ⟨-, z⟩
  · exact Or.inl z
  · obtain ⟨x1, x2⟩ := knd_x A n 6
    refine Or.inr ⟨fun c hc => ?_, ?_⟩
    · obtain ⟨e1, e2, -⟩ := mkd_e hT hc
      rw [(x2 c hc).1, (x2 c hc).2, x1 4 (by decide) (by decide), x1 6 (by decide) (by decide)]
      exact ⟨e1, e2⟩
    · rw [x1 33 (by decide) (by decide), x1 32 (by decide) (by decide)]; exact z
theorem fb_chr (hW : Wsh I A) {B : Nat → Nat → Int32} (hL : Link n I A L B) {c : Int32} {f : Nat → Int32} (h : Chr c f) : m_fb (I 27) B f = f_fb I A c := by
  obtain ⟨t, ht, hd, rfl, hf⟩ := h
  rw [← hW.2.2.1]; exact fb_row hL ht hf
theorem co_chr {B : Nat → Nat → Int32} (hL : Link n I A L B) {c : Int32} {f : Nat → Int32} (h : Chr c f) : m_cost n B f = f_cost I A L c := by
  obtain ⟨t, ht, hd, rfl, hf⟩ := h
  exact co_row hL ht hd hf
theorem so_chr {B : Nat → Nat → Int32} (hL : Link n I A L B) {c : Int32} {f : Nat → Int32} (h : Chr c f) : m_soft (nI n) B f = f_soft I A c := by
  obtain ⟨m, a, s0, s1, s2, s3, hg, hd, rfl, hf⟩ := chr_ex h
  rw [m_soft_N hL hg hd hf, soft_N hg]
end DRAFT
theorem rel_dr {n : Nat} {I I' : Nat → Int32} {A A' : Nat → Nat → Int32} {L L' : Nat → Nat → Int64} {O' : Nat → UInt64} (hT : Tbl n I' A' L') (hW : Wsh I' A') (hR : Rst I' A') (e1 : f_fb I' A' = f_fb I A) (e2 : f_cost I' A' L' = f_cost I A L) (hC : CaC (f_fb I A) (f_cost I A L) I' L') (i29 : I' 29 = 0) : Rel I' A' L' O' := rel_nw hT hW hR e1 e2 hC (Or.inl i29)
theorem st_draftMark {X : XS} : LStep X Rel 1897 := by
  intro Q I A L O ii bC bS hX hi hr zc
  obtain ⟨n, hT, hW, hR, hC, hM⟩ := id hr
  refine opA_draftMark hX hi (fun hc => ?_) (fun hc => ?_)
  · exact opB_draftMark hX hi (fun _ => ⟨rfl, zc _ _ _ _ (rel_26 hr _)⟩) (fun h => absurd h hc)
  · refine opB_draftMark hX hi (fun hn => absurd hc hn) (fun _ => ⟨rfl, ?_, zc _ _ _ _ ?_⟩)
    · show (g_mark (I 1)).toInt64 = (g_named (A 30 0)).toInt64
      rw [(chr_get hR.1).1]
    · obtain ⟨m, a, s0, s1, s2, s3, hg, hd, he, hf⟩ := chr_ex hR.1
      obtain ⟨z, hz, z1, z2⟩ : ∃ z, z < 3 ∧ ((X.2 (ii + 1)).toUInt32 % 65536).toInt32 = nI (mkN z) ∧ mk_of ((X.2 (ii + 1)).toUInt32 % 65536).toInt32 = nI z := by
        rcases hc with y | y | y <;> rw [y]
        · exact ⟨0, by decide, rfl, by decide⟩
        · exact ⟨1, by decide, rfl, by decide⟩
        · exact ⟨2, by decide, rfl, by decide⟩
      have hn : Chr (g_wMark (I 1) ((X.2 (ii + 1)).toUInt32 % 65536).toInt32) (upd (A 30) 0 (mk_of ((X.2 (ii + 1)).toUInt32 % 65536).toInt32)) := by
        rw [z1, ← z1, z2, z1, he, cod_wM hg hz]
        obtain ⟨g1, g2⟩ := hg
        obtain ⟨f0, f1, f2, f3, f4, f5⟩ := hf
        exact chr_mk ⟨hz, g2⟩ hd ⟨pk_us, (pk_un (by decide)).trans f1, (pk_un (by decide)).trans f2, (pk_un (by decide)).trans f3, (pk_un (by decide)).trans f4, (pk_un (by decide)).trans f5⟩
      exact rel_dr (I := I) (A := A) (L := L) (Tbl_c rfl rfl rfl rfl rfl rfl rfl rfl rfl rfl rfl hT) (Wsh_c rfl rfl rfl rfl rfl rfl rfl rfl rfl rfl hW) ⟨hn, hR.2.1, hR.2.2.1, hR.2.2.2⟩ (fbc rfl rfl rfl rfl) (coc rfl rfl rfl rfl rfl) (CaC_c rfl rfl rfl hC) rfl
theorem st_draftAggregate {X : XS} : LStep X Rel 1955 := by
  intro Q I A L O ii bC bS hX hi hr zc
  obtain ⟨n, hT, hW, hR, hC, hM⟩ := id hr
  refine opA_draftAggregate hX hi (fun hc => ?_) (fun hc => ?_)
  · exact opB_draftAggregate hX hi (fun _ => ⟨rfl, zc _ _ _ _ (rel_26 hr _)⟩) (fun h => absurd h hc)
  · refine opB_draftAggregate hX hi (fun hn => absurd hc hn) (fun _ => ⟨rfl, ?_, zc _ _ _ _ ?_⟩)
    · show (g_agg (I 1)).toInt64 = (A 30 1).toInt64
      rw [(chr_get hR.1).2.1]
    · obtain ⟨m, a, s0, s1, s2, s3, hg, hd, he, hf⟩ := chr_ex hR.1
      obtain ⟨z, hz, z1⟩ : ∃ z, z < 3 ∧ X.2 (ii + 1) = nI z := by
        rcases hc with y | y | y
        · exact ⟨0, by decide, y⟩
        · exact ⟨1, by decide, y⟩
        · exact ⟨2, by decide, y⟩
      have hn : Chr (g_wAgg (I 1) (X.2 (ii + 1))) (upd (A 30) 1 (X.2 (ii + 1))) := by
        rw [z1, he, cod_wA hg hz]
        obtain ⟨g1, g2, g3⟩ := hg
        obtain ⟨f0, f1, f2, f3, f4, f5⟩ := hf
        exact chr_mk ⟨g1, hz, g3⟩ hd ⟨(pk_un (by decide)).trans f0, pk_us, (pk_un (by decide)).trans f2, (pk_un (by decide)).trans f3, (pk_un (by decide)).trans f4, (pk_un (by decide)).trans f5⟩
      exact rel_dr (I := I) (A := A) (L := L) (Tbl_c rfl rfl rfl rfl rfl rfl rfl rfl rfl rfl rfl hT) (Wsh_c rfl rfl rfl rfl rfl rfl rfl rfl rfl rfl hW) ⟨hn, hR.2.1, hR.2.2.1, hR.2.2.2⟩ (fbc rfl rfl rfl rfl) (coc rfl rfl rfl rfl rfl) (CaC_c rfl rfl rfl hC) rfl
theorem st_brokenRule {X : XS} : LStep X Rel 2079 := by
  intro Q I A L O ii bC bS hX hi hr zc
  obtain ⟨n, hT, hW, hR, hC, hM⟩ := id hr
  have e30 : kndA A n 6 30 = A 30 := (knd_x A n 6).1 30 (by decide) (by decide)
  refine opA_brokenRule hX hi (opB_brokenRule hX hi hT.2.2.1 hT.1 (chr_vch hR.1) ⟨?_, zc _ _ _ _ (rel_kn hT hW hR hM rfl rfl hC 0)⟩)
  rw [e30, fb_chr hW (knd_link hT hW) hR.1]
theorem st_softRules {X : XS} : LStep X Rel 2092 := by
  intro Q I A L O ii bC bS hX hi hr zc
  obtain ⟨n, hT, hW, hR, hC, hM⟩ := id hr
  have e30 : kndA A n 6 30 = A 30 := (knd_x A n 6).1 30 (by decide) (by decide)
  refine opA_softRules hX hi (opB_softRules hX hi hT.2.2.1 hT.1 (chr_vch hR.1) ⟨?_, zc _ _ _ _ (rel_kn hT hW hR hM rfl rfl hC 0)⟩)
  rw [e30, hT.2.2.1, so_chr (knd_link hT hW) hR.1]
theorem st_draftCost {X : XS} : LStep X Rel 2105 := by
  intro Q I A L O ii bC bS hX hi hr zc
  obtain ⟨n, hT, hW, hR, hC, hM⟩ := id hr
  have e30 : kndA A n 6 30 = A 30 := (knd_x A n 6).1 30 (by decide) (by decide)
  have ef : m_fb (I 27) (kndA A n 6) (kndA A n 6 30) = f_fb I A (I 1) := by rw [e30, fb_chr hW (knd_link hT hW) hR.1]
  refine opA_draftCost hX hi (fun hc => ?_) (fun hc => ?_)
  · exact opB_draftCost hX hi hT.2.2.1 hT.1 (chr_vch hR.1) (fun _ => ⟨rfl, zc _ _ _ _ (rel_kn hT hW hR hM rfl rfl hC 1)⟩) (fun h => absurd (ef.symm.trans h) hc)
  · refine opB_draftCost hX hi hT.2.2.1 hT.1 (chr_vch hR.1) (fun h => absurd (ef.trans hc) h) (fun _ => ⟨rfl, ?_, zc _ _ _ _ ?_⟩)
    · show (f_cost I A L (I 1)).toInt64 = _
      rw [e30, co_chr (knd_link hT hW) hR.1]
    · refine rel_kn hT hW hR hM ?_ ?_ ?_ 0
      · rfl
      · rfl
      · exact CaC_c rfl rfl rfl hC
theorem st_draftRank {X : XS} : LStep X Rel 2149 := by
  intro Q I A L O ii bC bS hX hi hr zc
  obtain ⟨n, hT, hW, hR, hC, hM⟩ := id hr
  refine opA_draftRank hX hi (fun hc => ?_) (fun hc => ?_)
  · have hK := mk_any (I' := I) hT hW hR hM SI_r rfl rfl rfl rfl
    have ef : m_fb (mkI I n A 27) (mkA I n A) (mkA I n A 30) = f_fb I A (I 1) := by
      rw [mk_fI 27 (by decide) (by decide) (by decide) (by decide), mk_fA 30 (by decide) (by decide) (by decide) (by decide) (by decide), fb_chr hW (mk_link hT hW hK) hR.1]
    refine opB_draftRank hX hi hT.2.2.1 hT.1 (chr_vch hR.1) (fun _ => ⟨rfl, zc _ _ _ _ ?_⟩) (fun h => absurd (ef.symm.trans h) hc)
    exact rel_mk hT hW hR hK SI_r rfl rfl hC 1
  · obtain ⟨t1, t2, t3⟩ := tr_ok hT hW hR.2.2.2 (p_of (f_cost I A L (I 1)) (I 1)) rfl
    generalize tAll I A L (p_of (f_cost I A L (I 1)) (I 1)) = t at t1 t2 t3 ⊢
    have hS : SI (va_up (va_up (va_up I 10 (nI t.1.1)) 8 t.2.1) 9 t.2.2) I := ⟨rfl, rfl, rfl, rfl, rfl, rfl, rfl, rfl, rfl, rfl, rfl, rfl, rfl⟩
    have hC' : CaC (f_fb I A) (f_cost I A L) (va_up (va_up (va_up I 10 (nI t.1.1)) 8 t.2.1) 9 t.2.2) L := CaC_c rfl rfl rfl hC
    have hK := mk_any hT hW hR hM hS rfl rfl rfl rfl
    have e20 : (va_up (va_up (va_up I 10 (nI t.1.1)) 8 t.2.1) 9 t.2.2) 20 = nI n := hT.2.2.1
    have e27 : (va_up (va_up (va_up I 10 (nI t.1.1)) 8 t.2.1) 9 t.2.2) 27 = I 27 := rfl
    have e1 : (va_up (va_up (va_up I 10 (nI t.1.1)) 8 t.2.1) 9 t.2.2) 1 = I 1 := rfl
    generalize va_up (va_up (va_up I 10 (nI t.1.1)) 8 t.2.1) 9 t.2.2 = J at hS hC' hK e20 e27 e1 ⊢
    have ef : m_fb (mkI J n A 27) (mkA J n A) (mkA J n A 30) = f_fb I A (I 1) := by
      rw [mk_fI 27 (by decide) (by decide) (by decide) (by decide), mk_fA 30 (by decide) (by decide) (by decide) (by decide) (by decide), e27, fb_chr hW (mk_link hT hW hK) hR.1]
    refine opB_draftRank hX hi e20 hT.1 (chr_vch hR.1) (fun h => absurd (ef.trans hc) h) (fun _ => ⟨rfl, ?_, zc _ _ _ _ ?_⟩)
    · show t.2.2.toInt64 = (mkI J n A 25).toInt64
      obtain ⟨-, b, -, -, -, -, T, T1, T2, T3⟩ := hK
      rw [mk_fI 1 (by decide) (by decide) (by decide) (by decide), e1] at T2
      rw [T3, t3, T2]
      rfl
    · refine rel_mk hT hW hR hK hS ?_ ?_ ?_ 0
      · rfl
      · rfl
      · exact CaC_c rfl rfl rfl hC'
