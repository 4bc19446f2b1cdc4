/-! the ranking asked -/
section RANK
variable {n : Nat} {I J : Nat → Int32} {A : Nat → Nat → Int32} {L : Nat → Nat → Int64} {fb co : Int32 → Int32}
theorem isRk_e {k : Nat} (h5 : k ≤ 5) (x : Int32) : isRk (nI k) x ↔ inRow k x := by
  unfold isRk inRow
  constructor
  · rintro ⟨h1, h2, -⟩; exact ⟨h1, h2⟩
  · rintro ⟨h1, h2⟩
    refine ⟨h1, h2, ?_⟩
    obtain ⟨j, hj, e⟩ := nI_of (i_nlt.mpr h1)
    rw [e, nI_ltI hj (by omega)] at h2
    rw [e, show (5 : Int32) = nI 5 from rfl, nI_ltI hj (by decide)]; omega
theorem place_n {k j : Nat} (h5 : k ≤ 5) (hj : j < k) (f : Nat → Int64) : f_place (nI k) f (nI j) = f j := by
  unfold f_place
  rw [if_pos ((isRk_e h5 _).mpr (inRow_n (by omega) hj)), nI_clamp (by omega)]
theorem pl_get (hc : coOK co) {t : Nat} (ht : t < 21609) : p_cost (plI co t) = co (codI t) ∧ p_chart (plI co t) = codI t := by
  obtain ⟨C, c1, c2⟩ := hc t ht
  unfold plI
  rw [c2, show codI t = nI (codT t) from rfl, p_of_N c1 (codT_lt ht), p_cost_N c1 (codT_lt ht), p_chart_N (codT_lt ht)]
  exact ⟨rfl, rfl⟩
theorem rk_at (hc : coOK co) {b : BT} (hb : TopS (SN fb co 21609) b) {K : Nat → Int32} {B : Nat → Nat → Int32} (hK : MK fb co K B) :
    K 22 = nI b.1 ∧ ∀ i, i < b.1 → p_cost (b.2 i) = B 33 i ∧ Chr (p_chart (b.2 i)) (rowR (B 32) i) ∧ fb (p_chart (b.2 i)) = 0 ∧ co (p_chart (b.2 i)) = p_cost (b.2 i) ∧ p_of (co (p_chart (b.2 i))) (p_chart (b.2 i)) = b.2 i := by
  obtain ⟨-, w, w1, w2, ⟨-, w3⟩, -⟩ := hK
  obtain ⟨u1, u2⟩ := TopS_u hb w1
  refine ⟨by rw [w2, u1], fun i hi => ?_⟩
  obtain ⟨t, t1, t2, t3, t4, t5⟩ := w3 i (by show i < w.1; omega)
  rw [u2 i hi, ← t3]
  obtain ⟨p1, p2⟩ := pl_get hc t1
  rw [p1, p2]
  exact ⟨t4.symm, ⟨t, t1, t2.1, rfl, t5⟩, t2.2, rfl, rfl⟩
theorem va_eta {f : Nat → Int32} {k : Nat} : va_up f k (f k) = f := by
  funext j
  show (if j = k then f k else f j) = f j
  by_cases h : j = k
  · rw [if_pos h, h]
  · rw [if_neg h]
theorem us_e (hT : Tbl n I A L) : ∀ c, c ≤ 6 → usM A n c = usC (A 4) c
  | 0, _ => rfl
  | c + 1, h => by
    rw [usM, usC, us_e hT c (by omega), (mkd_e hT (show c < 6 by omega)).1]
    obtain ⟨t1, t2, t3, t4, t5, t6⟩ := hT
    obtain ⟨a1, a2, a3, a4, a5⟩ := t6 c (by omega)
    have := kind_r (n := stCnt (cv A c) n) (u := stDif (cv A c) n) (r := stRis (cv A c) n) (t5 c (by omega))
    rw [← a5] at this
    by_cases q : A 4 c = 0 ∨ A 4 c = 1
    · rw [if_pos q, b2i_f (by rcases q with z | z <;> rw [z] <;> decide)]; exact Int32.add_zero _
    · rw [if_neg q, b2i_t]
      have zl := lits
      simp only [i_le, i_lt, i_eq] at *
      omega
end RANK
theorem st_allowed {X : XS} : LStep X Rel 1271 := by
  intro Q I A L O ii bC bS hX hi hr zc
  obtain ⟨n, hT, hW, hR, hC, hM⟩ := id hr
  refine opA_allowed hX hi ?_
  obtain ⟨t1, t2, t3⟩ := tr_ok hT hW hR.2.2.2 0 rfl
  generalize tAll I A L 0 = t at t1 t2 t3 ⊢
  have hS : SI (va_up (va_up (va_up (va_up I 10 (nI t.1.1)) 8 t.2.1) 9 t.2.2) 26 0) I := ⟨rfl, rfl, rfl, rfl, rfl, rfl, rfl, rfl, rfl, rfl, rfl, rfl, rfl⟩
  have hC' : CaC (f_fb I A) (f_cost I A L) (va_up (va_up (va_up (va_up I 10 (nI t.1.1)) 8 t.2.1) 9 t.2.2) 26 0) (va_up L 17 t.1.2) := CaC_c rfl rfl rfl hC
  have hK := mk_any hT hW hR hM hS rfl rfl rfl rfl
  have e20 : (va_up (va_up (va_up I 10 (nI t.1.1)) 8 t.2.1) 9 t.2.2) 20 = nI n := hT.2.2.1
  refine opB_allowed hX hi e20 hT.1 (chr_vch hR.1) ?_
  generalize va_up (va_up (va_up (va_up I 10 (nI t.1.1)) 8 t.2.1) 9 t.2.2) 26 0 = J at hS hC' hK ⊢
  refine ⟨?_, zc _ _ _ _ ?_⟩
  · obtain ⟨-, b, -, -, -, k4, -⟩ := hK
    rw [k4, t2]
  · rw [← va_eta (f := mkI J n A) (k := 26)]
    refine rel_mk hT hW hR hK hS ?_ ?_ ?_ _
    · rfl
    · rfl
    · exact hC'
theorem st_costByTrying {X : XS} : LStep X Rel 1340 := by
  intro Q I A L O ii bC bS hX hi hr zc
  obtain ⟨n, hT, hW, hR, hC, hM⟩ := id hr
  have hco := coOK_L (knd_link hT hW)
  have eu := us_e hT 6 (Nat.le_refl 6)
  refine opA_costByTrying hX hi (fun hc => ?_) (fun k1 hc => ?_) (fun k1 hc => ?_)
  · have hS : SI (va_up I 26 0) I := ⟨rfl, rfl, rfl, rfl, rfl, rfl, rfl, rfl, rfl, rfl, rfl, rfl, rfl⟩
    have hK := mk_any hT hW hR hM hS rfl rfl rfl rfl
    obtain ⟨r1, r2⟩ := rk_at hco (rk_ok hT hW hC) hK
    have h3 : 3 < usM A n 6 := by rw [eu]; exact i_nle.mp hc
    exact opB_costByTrying hX hi hT.2.2.1 hT.1 (chr_vch hR.1) r1 (rk_ok hT hW hC).1 (fun _ => ⟨rfl, zc _ _ _ _ (rel_26 hr _)⟩) (fun h => absurd h3 h) (fun h => absurd h3 h)
  · obtain ⟨t1, t2, t3⟩ := tr_ok hT hW hR.2.2.2 0 rfl
    generalize tAll I A L 0 = t at t1 t2 t3 hc ⊢
    have h3 : ¬ 3 < usM A n 6 := by rw [eu]; exact fun z => i_nle.mpr z k1
    have hS : SI (va_up (va_up (va_up (va_up I 10 (nI t.1.1)) 8 t.2.1) 9 t.2.2) 26 0) I := ⟨rfl, rfl, rfl, rfl, rfl, rfl, rfl, rfl, rfl, rfl, rfl, rfl, rfl⟩
    have hC' : CaC (f_fb I A) (f_cost I A L) (va_up (va_up (va_up (va_up I 10 (nI t.1.1)) 8 t.2.1) 9 t.2.2) 26 0) (va_up L 17 t.1.2) := CaC_c rfl rfl rfl hC
    have hK := mk_any hT hW hR hM hS rfl rfl rfl rfl
    have e20 : (va_up (va_up (va_up I 10 (nI t.1.1)) 8 t.2.1) 9 t.2.2) 20 = nI n := hT.2.2.1
    obtain ⟨r1, r2⟩ := rk_at hco t1 hK
    refine opB_costByTrying hX hi e20 hT.1 (chr_vch hR.1) r1 t1.1 (fun h => absurd h h3) (fun _ _ => ⟨rfl, zc _ _ _ _ ?_⟩) (fun _ j hj e => absurd ((isRk_e t1.1 _).mpr (by rw [e]; exact inRow_n (by have := t1.1; omega) hj)) hc)
    generalize va_up (va_up (va_up (va_up I 10 (nI t.1.1)) 8 t.2.1) 9 t.2.2) 26 0 = J at hS hC' hK ⊢
    refine rel_mk hT hW hR hK hS ?_ ?_ ?_ _
    · rfl
    · rfl
    · exact hC'
  · obtain ⟨t1, t2, t3⟩ := tr_ok hT hW hR.2.2.2 0 rfl
    generalize tAll I A L 0 = t at t1 t2 t3 hc ⊢
    have h3 : ¬ 3 < usM A n 6 := by rw [eu]; exact fun z => i_nle.mpr z k1
    have hS : SI (va_up (va_up (va_up (va_up I 10 (nI t.1.1)) 8 t.2.1) 9 t.2.2) 26 0) I := ⟨rfl, rfl, rfl, rfl, rfl, rfl, rfl, rfl, rfl, rfl, rfl, rfl, rfl⟩
    have hC' : CaC (f_fb I A) (f_cost I A L) (va_up (va_up (va_up (va_up I 10 (nI t.1.1)) 8 t.2.1) 9 t.2.2) 26 0) (va_up L 17 t.1.2) := CaC_c rfl rfl rfl hC
    have hK := mk_any hT hW hR hM hS rfl rfl rfl rfl
    have e20 : (va_up (va_up (va_up I 10 (nI t.1.1)) 8 t.2.1) 9 t.2.2) 20 = nI n := hT.2.2.1
    obtain ⟨r1, r2⟩ := rk_at hco t1 hK
    refine opB_costByTrying hX hi e20 hT.1 (chr_vch hR.1) r1 t1.1 (fun h => absurd h h3) (fun _ h => absurd ((isRk_e t1.1 _).mp hc) h) (fun _ j hj e => ⟨rfl, ?_, zc _ _ _ _ ?_⟩)
    · show (p_cost (f_place (nI t.1.1) t.1.2 (X.2 (ii + 1)))).toInt64 = _
      rw [e, place_n t1.1 hj, (r2 j hj).1]
    · generalize va_up (va_up (va_up (va_up I 10 (nI t.1.1)) 8 t.2.1) 9 t.2.2) 26 0 = J at hS hC' hK ⊢
      refine rel_mk hT hW hR hK hS ?_ ?_ ?_ _
      · rfl
      · rfl
      · exact CaC_c rfl rfl rfl hC'
theorem st_cost {X : XS} : LStep X Rel 1284 := by
  intro Q I A L O ii bC bS hX hi hr zc
  obtain ⟨n, hT, hW, hR, hC, hM⟩ := id hr
  obtain ⟨k, k5, k7, -⟩ := id hC
  have hco := coOK_L (knd_link hT hW)
  have hrk := rk_ok hT hW hC
  refine opA_cost hX hi k7 k5 (fun hc => ?_) (fun hc => ?_)
  · skip
    generalize rkB I A L = rb at hrk hc ⊢
    have hS : SI (va_up (va_up I 6 0) 7 (nI rb.1)) I := ⟨rfl, rfl, rfl, rfl, rfl, rfl, rfl, rfl, rfl, rfl, rfl, rfl, rfl⟩
    have hC' : CaC (f_fb I A) (f_cost I A L) (va_up (va_up I 6 0) 7 (nI rb.1)) (va_up L 14 rb.2) := ⟨rb.1, hrk.1, rfl, fun _ => hrk⟩
    have hK := mk_any hT hW hR hM hS rfl rfl rfl rfl
    have e20 : (va_up (va_up I 6 0) 7 (nI rb.1)) 20 = nI n := hT.2.2.1
    generalize va_up (va_up I 6 0) 7 (nI rb.1) = J at hS hC' hK e20 ⊢
    obtain ⟨r1, r2⟩ := rk_at hco hrk hK
    refine opB_cost hX hi e20 hT.1 (chr_vch hR.1) r1 hrk.1 (fun _ => ⟨rfl, zc _ _ _ _ ?_⟩) (fun j hj e => absurd ((isRk_e hrk.1 _).mpr (by rw [e]; exact inRow_n (by have := hrk.1; omega) hj)) hc)
    refine rel_mk hT hW hR hK hS ?_ ?_ ?_ _
    · rfl
    · rfl
    · exact hC'
  · skip
    generalize rkB I A L = rb at hrk hc ⊢
    have hS : SI (va_up (va_up I 6 0) 7 (nI rb.1)) I := ⟨rfl, rfl, rfl, rfl, rfl, rfl, rfl, rfl, rfl, rfl, rfl, rfl, rfl⟩
    have hC' : CaC (f_fb I A) (f_cost I A L) (va_up (va_up I 6 0) 7 (nI rb.1)) (va_up L 14 rb.2) := ⟨rb.1, hrk.1, rfl, fun _ => hrk⟩
    have hK := mk_any hT hW hR hM hS rfl rfl rfl rfl
    have e20 : (va_up (va_up I 6 0) 7 (nI rb.1)) 20 = nI n := hT.2.2.1
    generalize va_up (va_up I 6 0) 7 (nI rb.1) = J at hS hC' hK e20 ⊢
    obtain ⟨r1, r2⟩ := rk_at hco hrk hK
    refine opB_cost hX hi e20 hT.1 (chr_vch hR.1) r1 hrk.1 (fun h => absurd ((isRk_e hrk.1 _).mp hc) h) (fun j hj e => ⟨rfl, ?_, zc _ _ _ _ ?_⟩)
    · show (p_cost (f_place (nI rb.1) rb.2 (X.2 (ii + 1)))).toInt64 = _
      rw [e, place_n hrk.1 hj, (r2 j hj).1]
    · skip
      refine rel_mk hT hW hR hK hS ?_ ?_ ?_ _
      · rfl
      · rfl
      · exact CaC_c rfl rfl rfl hC'
theorem st_mark {X : XS} : LStep X Rel 1396 := by
  intro Q I A L O ii bC bS hX hi hr zc
  obtain ⟨n, hT, hW, hR, hC, hM⟩ := id hr
  obtain ⟨k, k5, k7, -⟩ := id hC
  have hco := coOK_L (knd_link hT hW)
  have hrk := rk_ok hT hW hC
  refine opA_mark hX hi k7 k5 (fun hc => ?_) (fun hc => ?_)
  · skip
    generalize rkB I A L = rb at hrk hc ⊢
    have hS : SI (va_up (va_up I 6 0) 7 (nI rb.1)) I := ⟨rfl, rfl, rfl, rfl, rfl, rfl, rfl, rfl, rfl, rfl, rfl, rfl, rfl⟩
    have hC' : CaC (f_fb I A) (f_cost I A L) (va_up (va_up I 6 0) 7 (nI rb.1)) (va_up L 14 rb.2) := ⟨rb.1, hrk.1, rfl, fun _ => hrk⟩
    have hK := mk_any hT hW hR hM hS rfl rfl rfl rfl
    have e20 : (va_up (va_up I 6 0) 7 (nI rb.1)) 20 = nI n := hT.2.2.1
    generalize va_up (va_up I 6 0) 7 (nI rb.1) = J at hS hC' hK e20 ⊢
    obtain ⟨r1, r2⟩ := rk_at hco hrk hK
    refine opB_mark hX hi e20 hT.1 (chr_vch hR.1) r1 hrk.1 (fun _ => ⟨rfl, zc _ _ _ _ ?_⟩) (fun j hj e => absurd ((isRk_e hrk.1 _).mpr (by rw [e]; exact inRow_n (by have := hrk.1; omega) hj)) hc)
    refine rel_mk hT hW hR hK hS ?_ ?_ ?_ _
    · rfl
    · rfl
    · exact hC'
  · skip
    generalize rkB I A L = rb at hrk hc ⊢
    have hS : SI (va_up (va_up I 6 0) 7 (nI rb.1)) I := ⟨rfl, rfl, rfl, rfl, rfl, rfl, rfl, rfl, rfl, rfl, rfl, rfl, rfl⟩
    have hC' : CaC (f_fb I A) (f_cost I A L) (va_up (va_up I 6 0) 7 (nI rb.1)) (va_up L 14 rb.2) := ⟨rb.1, hrk.1, rfl, fun _ => hrk⟩
    have hK := mk_any hT hW hR hM hS rfl rfl rfl rfl
    have e20 : (va_up (va_up I 6 0) 7 (nI rb.1)) 20 = nI n := hT.2.2.1
    generalize va_up (va_up I 6 0) 7 (nI rb.1) = J at hS hC' hK e20 ⊢
    obtain ⟨r1, r2⟩ := rk_at hco hrk hK
    refine opB_mark hX hi e20 hT.1 (chr_vch hR.1) r1 hrk.1 (fun h => absurd ((isRk_e hrk.1 _).mp hc) h) (fun j hj e => ⟨rfl, ?_, zc _ _ _ _ ?_⟩)
    · show (g_mark (p_chart (f_place (nI rb.1) rb.2 (X.2 (ii + 1))))).toInt64 = _
      rw [e, place_n hrk.1 hj, (chr_get (r2 j hj).2.1).1]; try rfl
    · skip
      refine rel_mk hT hW hR hK hS ?_ ?_ ?_ _
      · rfl
      · rfl
      · exact CaC_c rfl rfl rfl hC'
theorem st_aggregate {X : XS} : LStep X Rel 1452 := by
  intro Q I A L O ii bC bS hX hi hr zc
  obtain ⟨n, hT, hW, hR, hC, hM⟩ := id hr
  obtain ⟨k, k5, k7, -⟩ := id hC
  have hco := coOK_L (knd_link hT hW)
  have hrk := rk_ok hT hW hC
  refine opA_aggregate hX hi k7 k5 (fun hc => ?_) (fun hc => ?_)
  · skip
    generalize rkB I A L = rb at hrk hc ⊢
    have hS : SI (va_up (va_up I 6 0) 7 (nI rb.1)) I := ⟨rfl, rfl, rfl, rfl, rfl, rfl, rfl, rfl, rfl, rfl, rfl, rfl, rfl⟩
    have hC' : CaC (f_fb I A) (f_cost I A L) (va_up (va_up I 6 0) 7 (nI rb.1)) (va_up L 14 rb.2) := ⟨rb.1, hrk.1, rfl, fun _ => hrk⟩
    have hK := mk_any hT hW hR hM hS rfl rfl rfl rfl
    have e20 : (va_up (va_up I 6 0) 7 (nI rb.1)) 20 = nI n := hT.2.2.1
    generalize va_up (va_up I 6 0) 7 (nI rb.1) = J at hS hC' hK e20 ⊢
    obtain ⟨r1, r2⟩ := rk_at hco hrk hK
    refine opB_aggregate hX hi e20 hT.1 (chr_vch hR.1) r1 hrk.1 (fun _ => ⟨rfl, zc _ _ _ _ ?_⟩) (fun j hj e => absurd ((isRk_e hrk.1 _).mpr (by rw [e]; exact inRow_n (by have := hrk.1; omega) hj)) hc)
    refine rel_mk hT hW hR hK hS ?_ ?_ ?_ _
    · rfl
    · rfl
    · exact hC'
  · skip
    generalize rkB I A L = rb at hrk hc ⊢
    have hS : SI (va_up (va_up I 6 0) 7 (nI rb.1)) I := ⟨rfl, rfl, rfl, rfl, rfl, rfl, rfl, rfl, rfl, rfl, rfl, rfl, rfl⟩
    have hC' : CaC (f_fb I A) (f_cost I A L) (va_up (va_up I 6 0) 7 (nI rb.1)) (va_up L 14 rb.2) := ⟨rb.1, hrk.1, rfl, fun _ => hrk⟩
    have hK := mk_any hT hW hR hM hS rfl rfl rfl rfl
    have e20 : (va_up (va_up I 6 0) 7 (nI rb.1)) 20 = nI n := hT.2.2.1
    generalize va_up (va_up I 6 0) 7 (nI rb.1) = J at hS hC' hK e20 ⊢
    obtain ⟨r1, r2⟩ := rk_at hco hrk hK
    refine opB_aggregate hX hi e20 hT.1 (chr_vch hR.1) r1 hrk.1 (fun h => absurd ((isRk_e hrk.1 _).mp hc) h) (fun j hj e => ⟨rfl, ?_, zc _ _ _ _ ?_⟩)
    · show (g_agg (p_chart (f_place (nI rb.1) rb.2 (X.2 (ii + 1))))).toInt64 = _
      rw [e, place_n hrk.1 hj, (chr_get (r2 j hj).2.1).2.1]; try rfl
    · skip
      refine rel_mk hT hW hR hK hS ?_ ?_ ?_ _
      · rfl
      · rfl
      · exact CaC_c rfl rfl rfl hC'
theorem st_column {X : XS} : LStep X Rel 1508 := by
  intro Q I A L O ii bC bS hX hi hr zc
  obtain ⟨n, hT, hW, hR, hC, hM⟩ := id hr
  obtain ⟨k, k5, k7, -⟩ := id hC
  have hco := coOK_L (knd_link hT hW)
  have hrk := rk_ok hT hW hC
  refine opA_column hX hi k7 k5 (fun hc => ?_) (fun hc k2 => ?_) (fun hc k2 => ?_)
  · skip
    generalize rkB I A L = rb at hrk hc ⊢
    have hS : SI (va_up (va_up I 6 0) 7 (nI rb.1)) I := ⟨rfl, rfl, rfl, rfl, rfl, rfl, rfl, rfl, rfl, rfl, rfl, rfl, rfl⟩
    have hC' : CaC (f_fb I A) (f_cost I A L) (va_up (va_up I 6 0) 7 (nI rb.1)) (va_up L 14 rb.2) := ⟨rb.1, hrk.1, rfl, fun _ => hrk⟩
    have hK := mk_any hT hW hR hM hS rfl rfl rfl rfl
    have e20 : (va_up (va_up I 6 0) 7 (nI rb.1)) 20 = nI n := hT.2.2.1
    generalize va_up (va_up I 6 0) 7 (nI rb.1) = J at hS hC' hK e20 ⊢
    obtain ⟨r1, r2⟩ := rk_at hco hrk hK
    refine opB_column hX hi e20 hT.1 (chr_vch hR.1) r1 hrk.1 (fun _ => ⟨rfl, zc _ _ _ _ ?_⟩) (fun h => absurd ((isRk_e hrk.1 _).mpr h) hc) (fun j i hj _ e => absurd ((isRk_e hrk.1 _).mpr (by rw [e]; exact inRow_n (by have := hrk.1; omega) hj)) hc)
    refine rel_mk hT hW hR hK hS ?_ ?_ ?_ _
    · rfl
    · rfl
    · exact hC'
  · skip
    generalize rkB I A L = rb at hrk hc ⊢
    have hS : SI (va_up (va_up I 6 0) 7 (nI rb.1)) I := ⟨rfl, rfl, rfl, rfl, rfl, rfl, rfl, rfl, rfl, rfl, rfl, rfl, rfl⟩
    have hC' : CaC (f_fb I A) (f_cost I A L) (va_up (va_up I 6 0) 7 (nI rb.1)) (va_up L 14 rb.2) := ⟨rb.1, hrk.1, rfl, fun _ => hrk⟩
    have hK := mk_any hT hW hR hM hS rfl rfl rfl rfl
    have e20 : (va_up (va_up I 6 0) 7 (nI rb.1)) 20 = nI n := hT.2.2.1
    generalize va_up (va_up I 6 0) 7 (nI rb.1) = J at hS hC' hK e20 ⊢
    obtain ⟨r1, r2⟩ := rk_at hco hrk hK
    refine opB_column hX hi e20 hT.1 (chr_vch hR.1) r1 hrk.1 (fun h => absurd ((isRk_e hrk.1 _).mp hc) h) (fun _ _ => ⟨rfl, zc _ _ _ _ ?_⟩) (fun j i hj hi4 e e2 => absurd (by rw [e2]; exact chan_i hi4) k2)
    refine rel_mk hT hW hR hK hS ?_ ?_ ?_ _
    · rfl
    · rfl
    · exact hC'
  · skip
    generalize rkB I A L = rb at hrk hc ⊢
    have hS : SI (va_up (va_up I 6 0) 7 (nI rb.1)) I := ⟨rfl, rfl, rfl, rfl, rfl, rfl, rfl, rfl, rfl, rfl, rfl, rfl, rfl⟩
    have hC' : CaC (f_fb I A) (f_cost I A L) (va_up (va_up I 6 0) 7 (nI rb.1)) (va_up L 14 rb.2) := ⟨rb.1, hrk.1, rfl, fun _ => hrk⟩
    have hK := mk_any hT hW hR hM hS rfl rfl rfl rfl
    have e20 : (va_up (va_up I 6 0) 7 (nI rb.1)) 20 = nI n := hT.2.2.1
    generalize va_up (va_up I 6 0) 7 (nI rb.1) = J at hS hC' hK e20 ⊢
    obtain ⟨r1, r2⟩ := rk_at hco hrk hK
    refine opB_column hX hi e20 hT.1 (chr_vch hR.1) r1 hrk.1 (fun h => absurd ((isRk_e hrk.1 _).mp hc) h) (fun _ h => absurd k2 h) (fun j i hj hi4 e e2 => ⟨rfl, ?_, zc _ _ _ _ ?_⟩)
    · show (g_col (p_chart (f_place (nI rb.1) rb.2 (X.2 (ii + 1)))) (X.2 (ii + 2))).toInt64 = _
      rw [e, e2, place_n hrk.1 hj, (chr_get (r2 j hj).2.1).2.2.1 i hi4, Nat.add_assoc]
    · skip
      refine rel_mk hT hW hR hK hS ?_ ?_ ?_ _
      · rfl
      · rfl
      · exact CaC_c rfl rfl rfl hC'
