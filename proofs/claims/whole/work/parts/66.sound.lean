/-! the class's own look, and the beginning -/
theorem sn_at {fb co : Int32 → Int32} (hc : coOK co) {b : BT} (hb : TopS (SN fb co 21609) b) {z : Nat} (hz : z < b.1) : fb (p_chart (b.2 z)) = 0 ∧ co (p_chart (b.2 z)) = p_cost (b.2 z) ∧ p_of (co (p_chart (b.2 z))) (p_chart (b.2 z)) = b.2 z := by
  obtain ⟨t, t1, t2, t3⟩ := hb.2.2.1 z hz
  rw [← t3]
  obtain ⟨p1, p2⟩ := pl_get hc t1
  rw [p1, p2]
  exact ⟨t2.2, rfl, rfl⟩
theorem sound_f {fb co : Int32 → Int32} (hc : coOK co) {b c : BT} (hb : TopS (SN fb co 21609) b) (hd : TopS (SN fb co 21609) c) :
    (¬ isRk (nI b.1) 0 ∧ ¬ isRk (nI c.1) 0) ∨ (isRk (nI b.1) 0 ∧ isRk (nI c.1) 0 ∧ co (p_chart (f_place (nI b.1) b.2 0)) = p_cost (f_place (nI c.1) c.2 0)) := by
  obtain ⟨u1, u2⟩ := TopS_u hb hd
  have hb5 := hb.1
  rw [← u1]
  by_cases h0 : b.1 = 0
  · have n0 : ¬ isRk (nI b.1) 0 := by
      rw [h0]; decide
    exact Or.inl ⟨n0, n0⟩
  · have r0 : isRk (nI b.1) 0 := (isRk_e hb5 _).mpr (inRow_n (j := 0) (by omega) (by omega))
    refine Or.inr ⟨r0, r0, ?_⟩
    rw [show (0 : Int32) = nI 0 from rfl, place_n hb5 (by omega), place_n hb5 (by omega), ← u2 0 (by omega)]
    exact (sn_at hc hb (by omega)).2.1
theorem st_isSound {X : XS} : LStep X Rel 2193 := by
  intro Q I A L O ii bC bS hX hi hr zc
  obtain ⟨n, hT, hW, hR, hC, hM⟩ := id hr
  obtain ⟨k, k5, k7, -⟩ := id hC
  have hco := coOK_L (knd_link hT hW)
  have hrk := rk_ok hT hW hC
  have htr : ∀ rb : BT, TopS (SN (f_fb I A) (f_cost I A L) 21609) (tAll (va_up (va_up I 6 0) 7 (nI rb.1)) A (va_up L 14 rb.2) 0).1 := by
    intro rb
    have e1 : f_fb (va_up (va_up I 6 0) 7 (nI rb.1)) A = f_fb I A := fbc rfl rfl rfl rfl
    have e2 : f_cost (va_up (va_up I 6 0) 7 (nI rb.1)) A (va_up L 14 rb.2) = f_cost I A L := coc rfl rfl rfl rfl rfl
    have := (tr_ok (I := va_up (va_up I 6 0) 7 (nI rb.1)) (A := A) (L := va_up L 14 rb.2) (Tbl_c rfl rfl rfl rfl rfl rfl rfl rfl rfl rfl rfl hT) (Wsh_c rfl rfl rfl rfl rfl rfl rfl rfl rfl rfl hW) hR.2.2.2 0 rfl).1
    rw [e1, e2] at this
    exact this
  refine opA_isSound hX hi k7 k5 (fun z hz => (sn_at hco hrk hz).1) (fun z hz hlt => ?_) ?_ ?_
  · rw [(sn_at hco hrk hz).2.2, (sn_at hco hrk (show z < (rkB I A L).1 by omega)).2.2] at hlt
    exact l_irr (l_tr hlt (hrk.2.1 z (z + 1) (by omega) hz))
  · generalize rkB I A L = rb at hrk ⊢
    have ht := htr rb
    generalize tAll (va_up (va_up I 6 0) 7 (nI rb.1)) A (va_up L 14 rb.2) 0 = t at ht ⊢
    have e2 : f_cost (va_up (va_up (va_up (va_up (va_up I 6 0) 7 (nI rb.1)) 10 (nI t.1.1)) 8 t.2.1) 9 t.2.2) A (va_up (va_up L 14 rb.2) 17 t.1.2) = f_cost I A L := coc rfl rfl rfl rfl rfl
    rw [e2]
    exact sound_f hco hrk ht
  · generalize rkB I A L = rb at hrk ⊢
    generalize tAll (va_up (va_up I 6 0) 7 (nI rb.1)) A (va_up L 14 rb.2) 0 = t
    refine opB_isSound hX hi ⟨rfl, zc _ _ _ _ ?_⟩
    exact rel_rd (I := I) (A := A) (L := L) ⟨rfl, rfl, rfl, rfl, rfl, rfl, rfl, rfl, rfl, rfl, rfl, rfl, rfl⟩ SA_r rfl rfl hT hW hR ⟨rb.1, hrk.1, rfl, fun _ => hrk⟩ (CaM_c rfl rfl rfl rfl rfl rfl rfl rfl rfl rfl rfl hM)
/-- the beginning -/
theorem iA_x (pl : Nat → Int32) : iA pl 18 = pl ∧ iA pl 2 = (fun _ => 0) ∧ iA pl 22 = (fun _ => 0) ∧ iA pl 3 = A3_0 ∧ iA pl 4 = A4_0 ∧ iA pl 23 = (fun _ => 0) ∧ iA pl 5 = (fun _ => 0) ∧ iA pl 6 = (fun _ => 0) ∧ iA pl 27 = (fun _ => 0) ∧ iA pl 28 = (fun _ => 0) ∧ iA pl 11 = ro_w ∧ iA pl 31 = (fun _ => 0) := ⟨rfl, rfl, rfl, rfl, rfl, rfl, rfl, rfl, rfl, rfl, rfl, rfl⟩
theorem A30_t : ∀ c, c < 6 → A3_0 c = -1 ∧ A4_0 c = 0 := by decide
theorem wt_t : ∀ j, j < 8 → ro_w j = (upd (upd (upd (upd (upd (upd (upd (upd (fun _ => 0) 0 3) 1 4) 2 2) 3 5) 4 3) 5 2) 6 6) 7 1) j ∧ 0 ≤ ro_w j ∧ ro_w j ≤ 99 := by decide
theorem bN_0 : ∀ m, bN (fun _ => 0) m = 0
  | 0 => rfl
  | m + 1 => by rw [bN, bN_0 m, if_pos rfl]; rfl
theorem init_rel (pl : Nat → Int32) (hp : pl = PLC) : Rel iI (iA pl) iL (fun _ => 0) := by
  obtain ⟨x18, x2, x22, x3, x4, x23, x5, x6, x27, x28, x11, x31⟩ := iA_x pl
  refine ⟨0, ⟨Nat.zero_le _, rfl, rfl, fun c r _ hr => absurd hr (Nat.not_lt_zero r), fun c hc => ?_, fun c hc => ⟨?_, ?_, rfl, rfl, ?_⟩⟩, ⟨?_, fun j _ => ?_, rfl, Or.inr rfl, ?_, fun j _ => ?_, fun j hj => ?_, rfl, by decide, by decide⟩, ⟨?_, Or.inl ⟨rfl, rfl, ?_, rfl⟩, ⟨0, by decide, rfl, rfl, fun i hi => absurd hi (Nat.not_lt_zero i)⟩, x18.trans hp⟩, CaC_1 (k := 0) rfl (by decide) rfl, Or.inl rfl⟩
  · rw [x3, x23, (A30_t c hc).1]; exact FK_m1
  · rw [x5]; rfl
  · rw [x6]; rfl
  · rw [x4, (A30_t c hc).2]; rfl
  · rw [x27, bN_0]; rfl
  · rw [x27]; exact Or.inl rfl
  · rw [x28, bN_0]; rfl
  · rw [x28]; exact Or.inl rfl
  · obtain ⟨w1, w2, w3⟩ := wt_t j hj
    rw [x11]
    refine ⟨w1, ?_, ?_⟩
    · show 0 ≤ (upd (upd (upd (upd (upd (upd (upd (upd (fun _ => 0) 0 3) 1 4) 2 2) 3 5) 4 3) 5 2) 6 6) 7 1) j
      rw [← w1]; exact w2
    · show (upd (upd (upd (upd (upd (upd (upd (upd (fun _ => 0) 0 3) 1 4) 2 2) 3 5) 4 3) 5 2) 6 6) 7 1) j ≤ 99
      rw [← w1]; exact w3
  · have e : iI 1 = cod 0 0 0 0 0 0 := cod_bare (m := 0) (a := 0) (by decide) (by decide)
    rw [e]
    exact chr_mk ⟨by decide, by decide, by decide, by decide, by decide, by decide⟩ (by unfold dist; decide) ⟨rfl, rfl, rfl, rfl, rfl, rfl⟩
  · rw [x31]
    intro k _
    exact ⟨show (-1 : Int32) ≤ 0 by decide, show (0 : Int32) < 6 by decide⟩
