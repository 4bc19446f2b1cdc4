/-! the picks -/
theorem chr_c {c : Int32} {f g : Nat → Int32} (h : Chr c f) (e : ∀ z, z < 6 → g z = f z) : Chr c g := by
  obtain ⟨t, h1, h2, h3, h4⟩ := h
  exact ⟨t, h1, h2, h3, rowOf_c h4 e⟩
theorem shU_at : ∀ (a : Nat) (f : Nat → Int32) (j : Nat), shU f a j = if 1 ≤ j ∧ j ≤ a then f (j - 1) else f j
  | 0, f, j => by rw [shU, if_neg (by omega)]
  | a + 1, f, j => by
    rw [shU, shU_at a]
    by_cases h : 1 ≤ j ∧ j ≤ a
    · rw [if_pos h, if_pos (by omega), upd_at, if_neg (by omega)]
    · rw [if_neg h, upd_at]
      by_cases h2 : j = a + 1
      · rw [if_pos h2, if_pos (by omega), h2]; rfl
      · rw [if_neg h2, if_neg (by omega)]
theorem shD_at : ∀ (m : Nat) (f : Nat → Int32) (i y : Nat), shD f i m y = if i ≤ y ∧ y < i + m then f (y + 1) else f y
  | 0, f, i, y => by rw [shD, if_neg (by omega)]
  | m + 1, f, i, y => by
    rw [shD, shD_at m]
    by_cases h : i + 1 ≤ y ∧ y < i + 1 + m
    · rw [if_pos h, if_pos (by omega), upd_at, if_neg (by omega)]
    · rw [if_neg h, upd_at]
      by_cases h2 : y = i
      · rw [if_pos h2, if_pos (by omega), h2]
      · rw [if_neg h2, if_neg (by omega)]
theorem shF_at : ∀ (d : Nat) (f : Nat → Int32) (z : Nat), shF f d z = if 6 ≤ z ∧ z < d + 6 then f (z - 6) else f z
  | 0, f, z => by rw [shF, if_neg (by omega)]
  | d + 1, f, z => by
    rw [shF, shF_at d]
    by_cases h : 6 ≤ z ∧ z < d + 6
    · rw [if_pos h, if_pos (by omega), upd_at, if_neg (by omega)]
    · rw [if_neg h, upd_at]
      by_cases h2 : z = d + 6
      · rw [if_pos h2, if_pos (by omega), h2]; congr 1
      · rw [if_neg h2, if_neg (by omega)]
theorem mfI {I : Nat → Int32} {n : Nat} {A : Nat → Nat → Int32} {i : Nat} (h : decide (i = 22 ∨ i = 24 ∨ i = 25 ∨ i = 29) = false) : mkI I n A i = I i := by
  have h' := of_decide_eq_false h
  exact mk_fI i (fun z => h' (Or.inl z)) (fun z => h' (Or.inr (Or.inl z))) (fun z => h' (Or.inr (Or.inr (Or.inl z)))) (fun z => h' (Or.inr (Or.inr (Or.inr z))))
theorem mfA {I : Nat → Int32} {n : Nat} {A : Nat → Nat → Int32} {x : Nat} (h : decide (x = 25 ∨ x = 26 ∨ x = 29 ∨ x = 32 ∨ x = 33) = false) : mkA I n A x = A x := by
  have h' := of_decide_eq_false h
  exact mk_fA x (fun z => h' (Or.inl z)) (fun z => h' (Or.inr (Or.inl z))) (fun z => h' (Or.inr (Or.inr (Or.inl z)))) (fun z => h' (Or.inr (Or.inr (Or.inr (Or.inl z))))) (fun z => h' (Or.inr (Or.inr (Or.inr (Or.inr z)))))
section PICK
variable {n : Nat} {I P : Nat → Int32} {A D : Nat → Nat → Int32} {L L' : Nat → Nat → Int64} {O' : Nat → UInt64}
theorem rel_P (p0 : P 0 = I 0) (p2 : P 2 = I 2) (p3 : P 3 = I 3) (p4 : P 4 = I 4) (p5 : P 5 = I 5) (p20 : P 20 = I 20) (p23 : P 23 = I 23) (p27 : P 27 = I 27)
    (d2 : D 2 = A 2) (d3 : D 3 = A 3) (d4 : D 4 = A 4) (d5 : D 5 = A 5) (d6 : D 6 = A 6) (d11 : D 11 = A 11) (d22 : D 22 = A 22) (d23 : D 23 = A 23) (d24 : D 24 = A 24) (d27 : D 27 = A 27) (d28 : D 28 = A 28)
    (l7 : L' 7 = L 7) (l8 : L' 8 = L 8) (hT : Tbl n I A L) (hW : Wsh I A) (hR : Rst P D) (hC : CaC (f_fb I A) (f_cost I A L) P L') (hM : CaM (f_fb I A) (f_cost I A L) P D) : Rel P D L' O' :=
  rel_nw (I := I) (A := A) (L := L) (Tbl_c p2 p20 d2 d3 d4 d5 d6 d22 d23 l7 l8 hT) (Wsh_c p0 p3 p4 p5 p23 p27 d11 d24 d27 d28 hW) hR (fbc p3 p4 p5 d4) (coc p2 d4 d6 d11 l8) hC hM
theorem mk_P (p0 : P 0 = I 0) (p1 : P 1 = I 1) (p2 : P 2 = I 2) (p3 : P 3 = I 3) (p4 : P 4 = I 4) (p5 : P 5 = I 5) (p20 : P 20 = I 20) (p23 : P 23 = I 23) (p27 : P 27 = I 27) (p22 : P 22 = I 22) (p24 : P 24 = I 24) (p25 : P 25 = I 25) (p29 : P 29 = I 29)
    (d : ∀ x, ¬ x = 20 → D x = A x) (hT : Tbl n I A L) (hW : Wsh I A) (hR : Rst I A) (hM : CaM (f_fb I A) (f_cost I A L) I A) : MK (f_fb I A) (f_cost I A L) (mkI P n D) (mkA P n D) := by
  have e1 : f_fb P D = f_fb I A := fbc p3 p4 p5 (d 4 (by decide))
  have e2 : f_cost P D L = f_cost I A L := coc p2 (d 4 (by decide)) (d 6 (by decide)) (d 11 (by decide)) rfl
  rw [← e1, ← e2]
  refine mk_ok (Tbl_c p2 p20 (d 2 (by decide)) (d 3 (by decide)) (d 4 (by decide)) (d 5 (by decide)) (d 6 (by decide)) (d 22 (by decide)) (d 23 (by decide)) rfl rfl hT) (Wsh_c p0 p3 p4 p5 p23 p27 (d 11 (by decide)) (d 24 (by decide)) (d 27 (by decide)) (d 28 (by decide)) hW) ?_ ?_
  · rw [p1, d 30 (by decide)]; exact hR.1
  · rw [e1, e2]
    exact CaM_c p29 p1 p22 p24 p25 (d 4 (by decide)) (d 6 (by decide)) (d 25 (by decide)) (d 26 (by decide)) (d 32 (by decide)) (d 33 (by decide)) hM
/-- the ranking's first chart, picked -/
theorem pick_row {c : Int32} {f g : Nat → Int32} (h : Chr c (rowR g 0)) : Chr c (stc f 0 g 6) := by
  refine chr_c h (fun z hz => ?_)
  rw [stc_at, if_pos (by omega)]
  show g (z - 6 * 0) = g (6 * 0 + z)
  congr 1; omega
/-- the former picks, one more -/
theorem keep_row {q : Nat} {f F g : Nat → Int32} {c : Int32} (hq : q ≤ 4) (h : ∀ i, i < q → Chr (f i) (rowR F i)) (hc : Chr c g) : ∀ i, i < kpN q → Chr (kpF f q c i) (rowR (stc (shF F 18) 0 g 6) i) := by
  intro i hi
  have hk : kpN q ≤ q + 1 ∧ kpN q ≤ 4 := by
    unfold kpN; split <;> omega
  unfold kpF
  rw [upd_at]
  by_cases h0 : i = 0
  · rw [if_pos h0]
    subst h0
    refine chr_c hc (fun z hz => ?_)
    show stc _ 0 g 6 (6 * 0 + z) = _
    rw [stc_at, if_pos (by omega)]
    congr 1; omega
  · rw [if_neg h0, shU_at, if_pos (by omega)]
    refine chr_c (h (i - 1) (by omega)) (fun z hz => ?_)
    show stc _ 0 g 6 (6 * i + z) = F (6 * (i - 1) + z)
    rw [stc_at, if_neg (by omega), shF_at, if_pos (by omega)]
    congr 1; omega
end PICK
theorem st_unpick {X : XS} : LStep X Rel 1840 := by
  intro Q I A L O ii bC bS hX hi hr zc
  obtain ⟨n, hT, hW, hR, hC, hM⟩ := id hr
  obtain ⟨r1, r2, ⟨q, q4, q11, q21, qr⟩, r18⟩ := id hR
  refine opA_unpick hX hi q11 q4 (fun h0 => ?_) (fun j hj => ?_)
  · exact opB_unpick hX hi q21 q4 (fun _ => ⟨rfl, zc _ _ _ _ (rel_26 hr _)⟩) (fun j hj => absurd hj (by omega))
  · refine opB_unpick hX hi q21 q4 (fun h => absurd h (by omega)) (fun j' hj' => ?_)
    have : j' = j := by omega
    subst this
    have h28 : I 28 = 1 := by
      rcases r2 with z | z
      · exfalso
        have := z.2.2.2
        rw [q21, hj] at this
        exact nI_ne0 (by omega) (by omega) this
      · exact z.1
    refine ⟨rfl, rfl, zc _ _ _ _ (rel_P (I := I) (A := A) (L := L) rfl rfl rfl rfl rfl rfl rfl rfl rfl rfl rfl rfl rfl rfl rfl rfl rfl rfl rfl rfl rfl hT hW ⟨r1, Or.inr ⟨h28, ?_⟩, ⟨j', by omega, rfl, rfl, fun i hi' => ?_⟩, r18⟩ (CaC_c rfl rfl rfl hC) (CaM_c rfl rfl rfl rfl rfl rfl rfl rfl rfl rfl rfl hM))⟩
    · exact pick_row (qr 0 (by omega))
    · show Chr (shD (A 20) 0 j' i) (rowR (mDrp (A 34) 0 (6 * j')) i)
      rw [shD_at, if_pos (by omega)]
      refine chr_c (qr (i + 1) (by omega)) (fun z hz => ?_)
      show mDrp (A 34) 0 (6 * j') (6 * i + z) = A 34 (6 * (i + 1) + z)
      rw [mDrp_at, if_pos (by omega)]
      congr 1; omega
theorem st_pick {X : XS} : LStep X Rel 1632 := by
  intro Q I A L O ii bC bS hX hi hr zc
  obtain ⟨n, hT, hW, hR, hC, hM⟩ := id hr
  obtain ⟨r1, r2, ⟨q, q4, q11, q21, qr⟩, r18⟩ := id hR
  obtain ⟨k, k5, k7, -⟩ := id hC
  have hco := coOK_L (knd_link hT hW)
  have hrk := rk_ok hT hW hC
  have hv : vch (A 31) := by
    rcases r2 with z | z
    · exact z.2.2.1
    · exact chr_vch z.2
  have hpg := pick_get hR
  have rk0 : ∀ b : BT, b.1 ≤ 5 → (isRk (nI b.1) 0 ↔ ¬ nI b.1 = 0) := by
    intro b hb
    rw [isRk_e hb]
    constructor
    · intro z e
      have h2 : (0 : Int32) < nI b.1 := z.2
      rw [e] at h2; exact absurd h2 (by decide)
    · intro z
      have : ¬ b.1 = 0 := fun e => z (by rw [e]; rfl)
      exact inRow_n (j := 0) (by omega) (by omega)
  refine opA_pick hX hi k7 k5 q11 q4 (fun hc => ?_) (fun hc k1 k2 => ?_) (fun hc k1 => ?_) (fun hc k1 k2 => ?_)
  · generalize rkB I A L = rb at hrk hc ⊢
    have hS : SI (va_up (va_up I 6 0) 7 (nI rb.1)) I := ⟨rfl, rfl, rfl, rfl, rfl, rfl, rfl, rfl, rfl, rfl, rfl, rfl, rfl⟩
    have hC' : CaC (f_fb I A) (f_cost I A L) (va_up (va_up I 6 0) 7 (nI rb.1)) (va_up L 14 rb.2) := ⟨rb.1, hrk.1, rfl, fun _ => hrk⟩
    have hK := mk_any hT hW hR hM hS rfl rfl rfl rfl
    have e20 : (va_up (va_up I 6 0) 7 (nI rb.1)) 20 = nI n := hT.2.2.1
    have e21 : (va_up (va_up I 6 0) 7 (nI rb.1)) 21 = nI q := q21
    generalize va_up (va_up I 6 0) 7 (nI rb.1) = J at hS hC' hK e20 e21 ⊢
    obtain ⟨s1, s2⟩ := rk_at hco hrk hK
    have hz : mkI J n A 22 = 0 := by
      rw [s1]; exact Classical.byContradiction (fun z => hc ((rk0 rb hrk.1).mpr z))
    refine opB_pick hX hi e20 hT.1 (chr_vch hR.1) hv e21 q4 (fun _ => ⟨rfl, zc _ _ _ _ ?_⟩) (fun h => absurd hz h) (fun h => absurd hz h) (fun h => absurd hz h)
    refine rel_mk hT hW hR hK hS ?_ ?_ ?_ _
    · rfl
    · rfl
    · exact hC'
  · generalize rkB I A L = rb at hrk hc k2 ⊢
    have hS : SI (va_up (va_up I 6 0) 7 (nI rb.1)) I := ⟨rfl, rfl, rfl, rfl, rfl, rfl, rfl, rfl, rfl, rfl, rfl, rfl, rfl⟩
    have hC' : CaC (f_fb I A) (f_cost I A L) (va_up (va_up I 6 0) 7 (nI rb.1)) (va_up L 14 rb.2) := ⟨rb.1, hrk.1, rfl, fun _ => hrk⟩
    have hK := mk_any hT hW hR hM hS rfl rfl rfl rfl
    have e20 : (va_up (va_up I 6 0) 7 (nI rb.1)) 20 = nI n := hT.2.2.1
    have e21 : (va_up (va_up I 6 0) 7 (nI rb.1)) 21 = nI q := q21
    have e27 : (va_up (va_up I 6 0) 7 (nI rb.1)) 27 = I 27 := rfl
    have e23 : (va_up (va_up I 6 0) 7 (nI rb.1)) 23 = I 23 := rfl
    have e28 : (va_up (va_up I 6 0) 7 (nI rb.1)) 28 = I 28 := rfl
    generalize va_up (va_up I 6 0) 7 (nI rb.1) = J at hS hC' hK e20 e21 e27 e23 e28 ⊢
    obtain ⟨s1, s2⟩ := rk_at hco hrk hK
    have hz := (rk0 rb hrk.1).mp hc
    have hb : 0 < rb.1 := Nat.pos_of_ne_zero (fun e => hz (by rw [e]; rfl))
    obtain ⟨-, p28, pc⟩ := hpg.resolve_left (fun z => k1 z.1)
    have hL := mk_link hT hW hK
    have c1 : m_fb (mkI J n A 27) (mkA J n A) (mkA J n A 31) = f_fb I A (I 12) := by rw [mfI rfl, mfA (x := 31) rfl, e27, fb_chr hW hL pc]
    have c2 : m_cost n (mkA J n A) (mkA J n A 31) = f_cost I A L (I 12) := by rw [mfA (x := 31) rfl, co_chr hL pc]
    have c3 : p_cost (f_place (nI rb.1) rb.2 0) = mkA J n A 33 0 := by rw [show (0 : Int32) = nI 0 from rfl, place_n hrk.1 hb, (s2 0 hb).1]
    have cc : ¬ mkI J n A 28 = 0 ∧ m_fb (mkI J n A 27) (mkA J n A) (mkA J n A 31) = 0 ∧ m_cost n (mkA J n A) (mkA J n A 31) ≤ mkA J n A 33 0 + mkI J n A 23 := by
      refine ⟨by rw [mfI rfl, e28]; exact p28, c1.trans k2.1, ?_⟩
      rw [c2, ← c3, mfI rfl, e23, ← hW.2.2.2.2.2.2.2.1]; exact k2.2
    refine opB_pick hX hi e20 hT.1 (chr_vch hR.1) hv e21 q4 (fun h => absurd (s1.symm.trans h) hz) (fun _ _ => ⟨rfl, rfl, zc _ _ _ _ ?_⟩) (fun _ h => absurd cc h) (fun _ h => absurd cc h)
    refine rel_mk hT hW hR hK hS ?_ ?_ ?_ _
    · rfl
    · rfl
    · exact CaC_c rfl rfl rfl hC'
  · generalize rkB I A L = rb at hrk hc ⊢
    have hz := (rk0 rb hrk.1).mp hc
    have hb : 0 < rb.1 := Nat.pos_of_ne_zero (fun e => hz (by rw [e]; rfl))
    have ep : f_place (nI rb.1) rb.2 0 = rb.2 0 := by rw [show (0 : Int32) = nI 0 from rfl, place_n hrk.1 hb]
    rw [ep]
    have hK := mk_P (I := I) (A := A) (P := va_up (va_up (va_up I 6 0) 7 (nI rb.1)) 12 (p_chart (rb.2 0))) (D := A) rfl rfl rfl rfl rfl rfl rfl rfl rfl rfl rfl rfl rfl (fun _ _ => rfl) hT hW hR hM
    have e20 : (va_up (va_up (va_up I 6 0) 7 (nI rb.1)) 12 (p_chart (rb.2 0))) 20 = nI n := hT.2.2.1
    have e21 : (va_up (va_up (va_up I 6 0) 7 (nI rb.1)) 12 (p_chart (rb.2 0))) 21 = nI q := q21
    have i28 : I 28 = 0 := by
      rcases hpg with z | z
      · exact z.2
      · exact absurd k1 z.1
    have e28 : mkI (va_up (va_up (va_up I 6 0) 7 (nI rb.1)) 12 (p_chart (rb.2 0))) n A 28 = 0 := (mfI rfl).trans i28
    obtain ⟨s1, s2⟩ := rk_at hco hrk hK
    refine opB_pick hX hi e20 hT.1 (chr_vch hR.1) hv e21 q4 (fun h => absurd (s1.symm.trans h) hz) (fun _ h => absurd e28 h.1) (fun _ _ _ => ⟨rfl, rfl, zc _ _ _ _ ?_⟩) (fun _ _ h => absurd e28 h)
    have s3 := (s2 0 hb).2.1
    refine rel_P (I := I) (A := A) (L := L) (mfI (i := 0) rfl) (mfI (i := 2) rfl) (mfI (i := 3) rfl) (mfI (i := 4) rfl) (mfI (i := 5) rfl) (mfI (i := 20) rfl) (mfI (i := 23) rfl) (mfI (i := 27) rfl)
      (mfA (x := 2) rfl) (mfA (x := 3) rfl) (mfA (x := 4) rfl) (mfA (x := 5) rfl) (mfA (x := 6) rfl) (mfA (x := 11) rfl) (mfA (x := 22) rfl) (mfA (x := 23) rfl) (mfA (x := 24) rfl) (mfA (x := 27) rfl) (mfA (x := 28) rfl) rfl rfl hT hW ?_ ⟨rb.1, hrk.1, mfI (i := 7) rfl, fun _ => hrk⟩ (Or.inr (MK_c rfl rfl rfl rfl rfl rfl rfl rfl rfl rfl hK))
    refine ⟨?_, Or.inr ⟨rfl, ?_⟩, ⟨q, q4, (mfI (i := 11) rfl).trans q11, (mfI (i := 21) rfl).trans q21, ?_⟩, (mfA (x := 18) rfl).trans r18⟩
    · show Chr (mkI _ n A 1) (mkA _ n A 30)
      rw [mfI rfl, mfA rfl]; exact r1
    · show Chr (mkI _ n A 12) (stc (mkA _ n A 31) 0 (mkA _ n A 32) 6)
      rw [mfI rfl]; exact pick_row s3
    · intro i hi'
      show Chr (mkA _ n A 20 i) (rowR (mkA _ n A 34) i)
      rw [mfA (x := 20) rfl, mfA (x := 34) rfl]; exact qr i hi'
  · generalize rkB I A L = rb at hrk hc k2 ⊢
    have hz := (rk0 rb hrk.1).mp hc
    have hb : 0 < rb.1 := Nat.pos_of_ne_zero (fun e => hz (by rw [e]; rfl))
    have ep : f_place (nI rb.1) rb.2 0 = rb.2 0 := by rw [show (0 : Int32) = nI 0 from rfl, place_n hrk.1 hb]
    rw [ep] at k2 ⊢
    have hK := mk_P (I := I) (A := A) (P := va_up (va_up (va_up (va_up I 6 0) 7 (nI rb.1)) 11 (nI (kpN q))) 12 (p_chart (rb.2 0))) (D := va_up A 20 (kpF (A 20) q (I 12))) rfl rfl rfl rfl rfl rfl rfl rfl rfl rfl rfl rfl rfl (fun x hx => if_neg hx) hT hW hR hM
    have e20 : (va_up (va_up (va_up (va_up I 6 0) 7 (nI rb.1)) 11 (nI (kpN q))) 12 (p_chart (rb.2 0))) 20 = nI n := hT.2.2.1
    have e21 : (va_up (va_up (va_up (va_up I 6 0) 7 (nI rb.1)) 11 (nI (kpN q))) 12 (p_chart (rb.2 0))) 21 = nI q := q21
    have e27 : (va_up (va_up (va_up (va_up I 6 0) 7 (nI rb.1)) 11 (nI (kpN q))) 12 (p_chart (rb.2 0))) 27 = I 27 := rfl
    have e23 : (va_up (va_up (va_up (va_up I 6 0) 7 (nI rb.1)) 11 (nI (kpN q))) 12 (p_chart (rb.2 0))) 23 = I 23 := rfl
    obtain ⟨-, p28, pc⟩ := hpg.resolve_left (fun z => k1 z.1)
    have e28 : ¬ mkI (va_up (va_up (va_up (va_up I 6 0) 7 (nI rb.1)) 11 (nI (kpN q))) 12 (p_chart (rb.2 0))) n (va_up A 20 (kpF (A 20) q (I 12))) 28 = 0 := by rw [mfI rfl]; exact p28
    obtain ⟨s1, s2⟩ := rk_at hco hrk hK
    have s3 := s2 0 hb
    have hL : Link n I A L (mkA (va_up (va_up (va_up (va_up I 6 0) 7 (nI rb.1)) 11 (nI (kpN q))) 12 (p_chart (rb.2 0))) n (va_up A 20 (kpF (A 20) q (I 12)))) := by
      refine link_of hT hW (mfA (x := 22) rfl) (mfA (x := 24) rfl) (mfA (x := 27) rfl) (mfA (x := 28) rfl) (fun c hc6 => ?_)
      have := hK.1 c hc6
      rw [mfA (x := 4) rfl, mfA (x := 6) rfl] at this
      exact this
    have hf7 := mfI (I := va_up (va_up (va_up (va_up I 6 0) 7 (nI rb.1)) 11 (nI (kpN q))) 12 (p_chart (rb.2 0))) (n := n) (A := va_up A 20 (kpF (A 20) q (I 12))) (i := 27) rfl
    have hf3 := mfI (I := va_up (va_up (va_up (va_up I 6 0) 7 (nI rb.1)) 11 (nI (kpN q))) 12 (p_chart (rb.2 0))) (n := n) (A := va_up A 20 (kpF (A 20) q (I 12))) (i := 23) rfl
    have hg1 := mfA (I := va_up (va_up (va_up (va_up I 6 0) 7 (nI rb.1)) 11 (nI (kpN q))) 12 (p_chart (rb.2 0))) (n := n) (A := va_up A 20 (kpF (A 20) q (I 12))) (x := 31) rfl
    have nc : ¬ (¬ mkI (va_up (va_up (va_up (va_up I 6 0) 7 (nI rb.1)) 11 (nI (kpN q))) 12 (p_chart (rb.2 0))) n (va_up A 20 (kpF (A 20) q (I 12))) 28 = 0 ∧ m_fb (mkI (va_up (va_up (va_up (va_up I 6 0) 7 (nI rb.1)) 11 (nI (kpN q))) 12 (p_chart (rb.2 0))) n (va_up A 20 (kpF (A 20) q (I 12))) 27) (mkA (va_up (va_up (va_up (va_up I 6 0) 7 (nI rb.1)) 11 (nI (kpN q))) 12 (p_chart (rb.2 0))) n (va_up A 20 (kpF (A 20) q (I 12)))) (mkA (va_up (va_up (va_up (va_up I 6 0) 7 (nI rb.1)) 11 (nI (kpN q))) 12 (p_chart (rb.2 0))) n (va_up A 20 (kpF (A 20) q (I 12))) 31) = 0 ∧ m_cost n (mkA (va_up (va_up (va_up (va_up I 6 0) 7 (nI rb.1)) 11 (nI (kpN q))) 12 (p_chart (rb.2 0))) n (va_up A 20 (kpF (A 20) q (I 12)))) (mkA (va_up (va_up (va_up (va_up I 6 0) 7 (nI rb.1)) 11 (nI (kpN q))) 12 (p_chart (rb.2 0))) n (va_up A 20 (kpF (A 20) q (I 12))) 31) ≤ mkA (va_up (va_up (va_up (va_up I 6 0) 7 (nI rb.1)) 11 (nI (kpN q))) 12 (p_chart (rb.2 0))) n (va_up A 20 (kpF (A 20) q (I 12))) 33 0 + mkI (va_up (va_up (va_up (va_up I 6 0) 7 (nI rb.1)) 11 (nI (kpN q))) 12 (p_chart (rb.2 0))) n (va_up A 20 (kpF (A 20) q (I 12))) 23) := by
      rintro ⟨-, z2, z3⟩
      rw [hf7, e27, hg1] at z2
      have z2' : m_fb (I 27) _ (A 31) = 0 := z2
      rw [fb_chr hW hL pc] at z2'
      rw [hf3, e23, hg1, ← s3.1, ← hW.2.2.2.2.2.2.2.1] at z3
      have z3' : m_cost n _ (A 31) ≤ p_cost (rb.2 0) + I 0 := z3
      rw [co_chr hL pc] at z3'
      exact k2 ⟨z2', z3'⟩
    have hv' : vch ((va_up A 20 (kpF (A 20) q (I 12))) 31) := hv
    refine opB_pick hX hi e20 hT.1 (chr_vch hR.1) hv' e21 q4 (fun h => absurd (s1.symm.trans h) hz) (fun _ h => absurd h nc) (fun _ _ h => absurd h e28) (fun _ _ _ => ⟨rfl, rfl, zc _ _ _ _ ?_⟩)
    refine rel_P (I := I) (A := A) (L := L) (mfI (i := 0) rfl) (mfI (i := 2) rfl) (mfI (i := 3) rfl) (mfI (i := 4) rfl) (mfI (i := 5) rfl) (mfI (i := 20) rfl) (mfI (i := 23) rfl) (mfI (i := 27) rfl)
      (mfA (x := 2) rfl) (mfA (x := 3) rfl) (mfA (x := 4) rfl) (mfA (x := 5) rfl) (mfA (x := 6) rfl) (mfA (x := 11) rfl) (mfA (x := 22) rfl) (mfA (x := 23) rfl) (mfA (x := 24) rfl) (mfA (x := 27) rfl) (mfA (x := 28) rfl) rfl rfl hT hW ?_ ⟨rb.1, hrk.1, mfI (i := 7) rfl, fun _ => hrk⟩ (Or.inr (MK_c rfl rfl rfl rfl rfl rfl rfl rfl rfl rfl hK))
    refine ⟨?_, Or.inr ⟨rfl, ?_⟩, ⟨kpN q, by unfold kpN; split <;> omega, mfI (i := 11) rfl, rfl, ?_⟩, (mfA (x := 18) rfl).trans r18⟩
    · show Chr (mkI _ n _ 1) (mkA _ n _ 30)
      rw [mfI rfl, mfA rfl]; exact r1
    · show Chr (mkI _ n _ 12) (stc (mkA _ n _ 31) 0 (mkA _ n _ 32) 6)
      rw [mfI rfl]; exact pick_row s3.2.1
    · intro i hi'
      show Chr (mkA _ n _ 20 i) (rowR (stc (shF (mkA _ n _ 34) 18) 0 (mkA _ n _ 31) 6) i)
      rw [mfA (x := 20) rfl, mfA (x := 34) rfl, mfA (x := 31) rfl]
      exact keep_row q4 qr pc i hi'
