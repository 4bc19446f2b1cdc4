/-! what a question leaves as it is -/
def SI (I' I : Nat → Int32) : Prop := I' 0 = I 0 ∧ I' 1 = I 1 ∧ I' 2 = I 2 ∧ I' 3 = I 3 ∧ I' 4 = I 4 ∧ I' 5 = I 5 ∧ I' 11 = I 11 ∧ I' 12 = I 12 ∧ I' 20 = I 20 ∧ I' 21 = I 21 ∧ I' 23 = I 23 ∧ I' 27 = I 27 ∧ I' 28 = I 28
def SA (A' A : Nat → Nat → Int32) : Prop := A' 2 = A 2 ∧ A' 3 = A 3 ∧ A' 4 = A 4 ∧ A' 5 = A 5 ∧ A' 6 = A 6 ∧ A' 11 = A 11 ∧ A' 18 = A 18 ∧ A' 20 = A 20 ∧ A' 22 = A 22 ∧ A' 23 = A 23 ∧ A' 24 = A 24 ∧ A' 27 = A 27 ∧ A' 28 = A 28 ∧ A' 30 = A 30 ∧ A' 31 = A 31 ∧ A' 34 = A 34
section SAME
variable {n : Nat} {I I' : Nat → Int32} {A A' : Nat → Nat → Int32} {L L' : Nat → Nat → Int64} {O O' : Nat → UInt64} {fb co : Int32 → Int32}
theorem SI_r : SI I I := ⟨rfl, rfl, rfl, rfl, rfl, rfl, rfl, rfl, rfl, rfl, rfl, rfl, rfl⟩
theorem SA_r : SA A A := ⟨rfl, rfl, rfl, rfl, rfl, rfl, rfl, rfl, rfl, rfl, rfl, rfl, rfl, rfl, rfl, rfl⟩
theorem SI_mk {J : Nat → Int32} (e : Int32) (h : SI J I) : SI (va_up (mkI J n A) 26 e) I := by
  obtain ⟨h0, h1, h2, h3, h4, h5, h11, h12, h20, h21, h23, h27, h28⟩ := h
  have z : ∀ i, ¬ i = 22 → ¬ i = 24 → ¬ i = 25 → ¬ i = 29 → ¬ i = 26 → va_up (mkI J n A) 26 e i = J i := by
    intro i a b c d f
    show (if i = 26 then _ else mkI J n A i) = J i
    rw [if_neg f, mk_fI i a b c d]
  exact ⟨(z 0 (by decide) (by decide) (by decide) (by decide) (by decide)).trans h0, (z 1 (by decide) (by decide) (by decide) (by decide) (by decide)).trans h1, (z 2 (by decide) (by decide) (by decide) (by decide) (by decide)).trans h2,
    (z 3 (by decide) (by decide) (by decide) (by decide) (by decide)).trans h3, (z 4 (by decide) (by decide) (by decide) (by decide) (by decide)).trans h4, (z 5 (by decide) (by decide) (by decide) (by decide) (by decide)).trans h5,
    (z 11 (by decide) (by decide) (by decide) (by decide) (by decide)).trans h11, (z 12 (by decide) (by decide) (by decide) (by decide) (by decide)).trans h12, (z 20 (by decide) (by decide) (by decide) (by decide) (by decide)).trans h20,
    (z 21 (by decide) (by decide) (by decide) (by decide) (by decide)).trans h21, (z 23 (by decide) (by decide) (by decide) (by decide) (by decide)).trans h23, (z 27 (by decide) (by decide) (by decide) (by decide) (by decide)).trans h27,
    (z 28 (by decide) (by decide) (by decide) (by decide) (by decide)).trans h28⟩
theorem SA_of (z : ∀ x, ¬ x = 25 → ¬ x = 26 → ¬ x = 29 → ¬ x = 32 → ¬ x = 33 → A' x = A x) : SA A' A :=
  ⟨z 2 (by decide) (by decide) (by decide) (by decide) (by decide), z 3 (by decide) (by decide) (by decide) (by decide) (by decide), z 4 (by decide) (by decide) (by decide) (by decide) (by decide), z 5 (by decide) (by decide) (by decide) (by decide) (by decide),
   z 6 (by decide) (by decide) (by decide) (by decide) (by decide), z 11 (by decide) (by decide) (by decide) (by decide) (by decide), z 18 (by decide) (by decide) (by decide) (by decide) (by decide), z 20 (by decide) (by decide) (by decide) (by decide) (by decide),
   z 22 (by decide) (by decide) (by decide) (by decide) (by decide), z 23 (by decide) (by decide) (by decide) (by decide) (by decide), z 24 (by decide) (by decide) (by decide) (by decide) (by decide), z 27 (by decide) (by decide) (by decide) (by decide) (by decide),
   z 28 (by decide) (by decide) (by decide) (by decide) (by decide), z 30 (by decide) (by decide) (by decide) (by decide) (by decide), z 31 (by decide) (by decide) (by decide) (by decide) (by decide), z 34 (by decide) (by decide) (by decide) (by decide) (by decide)⟩
theorem SA_mk {J : Nat → Int32} : SA (mkA J n A) A := SA_of (fun x a b c d e => mk_fA x a b c d e)
theorem SA_kn : SA (kndA A n 6) A := SA_of (fun x a b _ _ _ => (knd_x A n 6).1 x a b)
theorem fb_s (hI : SI I' I) (hA : SA A' A) : f_fb I' A' = f_fb I A := by
  obtain ⟨h0, h1, h2, h3, h4, h5, -⟩ := hI
  exact fbc h3 h4 h5 hA.2.2.1
theorem co_s (hI : SI I' I) (hA : SA A' A) (l8 : L' 8 = L 8) : f_cost I' A' L' = f_cost I A L := by
  obtain ⟨h0, h1, h2, h3, h4, h5, -⟩ := hI
  obtain ⟨a2, a3, a4, a5, a6, a11, -⟩ := hA
  exact coc h2 a4 a6 a11 l8
theorem Tbl_c (i2 : I' 2 = I 2) (i20 : I' 20 = I 20) (a2 : A' 2 = A 2) (a3 : A' 3 = A 3) (a4 : A' 4 = A 4) (a5 : A' 5 = A 5) (a6 : A' 6 = A 6) (a22 : A' 22 = A 22) (a23 : A' 23 = A 23) (l7 : L' 7 = L 7) (l8 : L' 8 = L 8) (h : Tbl n I A L) : Tbl n I' A' L' := by
  obtain ⟨t1, t2, t3, t4, t5, t6⟩ := h
  have ec : cv A' = cv A := by funext c r; unfold cv; rw [a2]
  have em : mv A' = mv A := by funext c r; unfold mv; rw [a22]
  refine ⟨t1, i2.trans t2, i20.trans t3, ?_, ?_, ?_⟩
  · rw [ec, em]; exact t4
  · rw [a3, a23]; exact t5
  · rw [ec, a3, a4, a5, a6, l7, l8]; exact t6
theorem Wsh_c (i0 : I' 0 = I 0) (i3 : I' 3 = I 3) (i4 : I' 4 = I 4) (i5 : I' 5 = I 5) (i23 : I' 23 = I 23) (i27 : I' 27 = I 27) (a11 : A' 11 = A 11) (a24 : A' 24 = A 24) (a27 : A' 27 = A 27) (a28 : A' 28 = A 28) (h : Wsh I A) : Wsh I' A' := by
  unfold Wsh
  rw [i0, i3, i4, i5, i23, i27, a11, a24, a27, a28]; exact h
theorem Rst_c (i1 : I' 1 = I 1) (i11 : I' 11 = I 11) (i12 : I' 12 = I 12) (i21 : I' 21 = I 21) (i28 : I' 28 = I 28) (a18 : A' 18 = A 18) (a20 : A' 20 = A 20) (a30 : A' 30 = A 30) (a31 : A' 31 = A 31) (a34 : A' 34 = A 34) (h : Rst I A) : Rst I' A' := by
  unfold Rst
  rw [i1, i11, i12, i21, i28, a18, a20, a30, a31, a34]; exact h
theorem CaC_c (i6 : I' 6 = I 6) (i7 : I' 7 = I 7) (l14 : L' 14 = L 14) (h : CaC fb co I L) : CaC fb co I' L' := by
  unfold CaC
  rw [i6, i7, l14]; exact h
theorem CaC_1 {k : Nat} (i6 : I' 6 = 1) (k5 : k ≤ 5) (i7 : I' 7 = nI k) : CaC fb co I' L' := ⟨k, k5, i7, fun z => absurd (i6.symm.trans z) (by decide)⟩
theorem MK_c (i1 : I' 1 = I 1) (i22 : I' 22 = I 22) (i24 : I' 24 = I 24) (i25 : I' 25 = I 25) (a4 : A' 4 = A 4) (a6 : A' 6 = A 6) (a25 : A' 25 = A 25) (a26 : A' 26 = A 26) (a32 : A' 32 = A 32) (a33 : A' 33 = A 33) (h : MK fb co I A) : MK fb co I' A' := by
  unfold MK
  rw [i1, i22, i24, i25, a4, a6, a25, a26, a32, a33]; exact h
theorem CaM_c (i29 : I' 29 = I 29) (i1 : I' 1 = I 1) (i22 : I' 22 = I 22) (i24 : I' 24 = I 24) (i25 : I' 25 = I 25) (a4 : A' 4 = A 4) (a6 : A' 6 = A 6) (a25 : A' 25 = A 25) (a26 : A' 26 = A 26) (a32 : A' 32 = A 32) (a33 : A' 33 = A 33) (h : CaM fb co I A) : CaM fb co I' A' := by
  rcases h with z | z
  · exact Or.inl (i29.trans z)
  · exact Or.inr (MK_c i1 i22 i24 i25 a4 a6 a25 a26 a32 a33 z)
theorem rel_rd (hI : SI I' I) (hA : SA A' A) (l7 : L' 7 = L 7) (l8 : L' 8 = L 8) (hT : Tbl n I A L) (hW : Wsh I A) (hR : Rst I A) (hC : CaC (f_fb I A) (f_cost I A L) I' L') (hM : CaM (f_fb I A) (f_cost I A L) I' A') : Rel I' A' L' O' := by
  have e1 := fb_s hI hA
  have e2 := co_s hI hA l8
  obtain ⟨h0, h1, h2, h3, h4, h5, h11, h12, h20, h21, h23, h27, h28⟩ := hI
  obtain ⟨a2, a3, a4, a5, a6, a11, a18, a20, a22, a23, a24, a27, a28, a30, a31, a34⟩ := hA
  refine ⟨n, Tbl_c h2 h20 a2 a3 a4 a5 a6 a22 a23 l7 l8 hT, Wsh_c h0 h3 h4 h5 h23 h27 a11 a24 a27 a28 hW, Rst_c h1 h11 h12 h21 h28 a18 a20 a30 a31 a34 hR, ?_, ?_⟩
  · rw [e1, e2]; exact hC
  · rw [e1, e2]; exact hM
/-- nothing but the event and the answer -/
theorem rel_26 (h : Rel I A L O) (e : Int32) : Rel (va_up I 26 e) A L O' := by
  obtain ⟨n, hT, hW, hR, hC, hM⟩ := h
  exact rel_rd ⟨rfl, rfl, rfl, rfl, rfl, rfl, rfl, rfl, rfl, rfl, rfl, rfl, rfl⟩ SA_r rfl rfl hT hW hR (CaC_c rfl rfl rfl hC) (CaM_c rfl rfl rfl rfl rfl rfl rfl rfl rfl rfl rfl hM)
theorem rel_35 (h : Rel I A L O) (e : Int32) (x : Nat → Int64) : Rel (va_up I 26 e) A (va_up L 35 x) O' := by
  obtain ⟨n, hT, hW, hR, hC, hM⟩ := h
  exact rel_rd ⟨rfl, rfl, rfl, rfl, rfl, rfl, rfl, rfl, rfl, rfl, rfl, rfl, rfl⟩ SA_r rfl rfl hT hW hR (CaC_c rfl rfl rfl hC) (CaM_c rfl rfl rfl rfl rfl rfl rfl rfl rfl rfl rfl hM)
theorem out35 (L : Nat → Nat → Int64) (v : Int64) : va_up L 35 (vp_updL (L 35) 0 v) 35 0 = v := rfl
theorem col_n {c : Int32} (h : isCol c) : ∃ j, j < 6 ∧ c = nI j := isCol_of h
theorem nI6 {j : Nat} (h : j < 6) : isCol (nI j) ∧ (nI j).toNatClampNeg = j := ⟨isCol_n h, nI_cl (n := 6) h (by decide)⟩
end SAME
