/-! what a question answers and leaves -/
/-- the class's state n, with what is broken and what it costs -/
def Okk (n : Nat) (fb co : Int32 → Int32) (I : Nat → Int32) (A : Nat → Nat → Int32) (L : Nat → Nat → Int64) : Prop :=
  Tbl n I A L ∧ Wsh I A ∧ A 18 = PLC ∧ CaC fb co I L ∧ f_fb I A = fb ∧ f_cost I A L = co
section ASK
variable {n : Nat} {fb co : Int32 → Int32} {I : Nat → Int32} {A : Nat → Nat → Int32} {L : Nat → Nat → Int64} {B : Nat → Int64}
theorem ok_of (hT : Tbl n I A L) (hW : Wsh I A) (h18 : A 18 = PLC) (hC : CaC (f_fb I A) (f_cost I A L) I L) : Okk n (f_fb I A) (f_cost I A L) I A L := ⟨hT, hW, h18, hC, rfl, rfl⟩
theorem ok_rel (h : Okk n fb co I A L) : RelL I A L := by
  obtain ⟨hT, hW, h18, hC, h1, h2⟩ := h
  exact ⟨n, hT, hW, h18, by rw [h1, h2]; exact hC⟩
theorem ok_co (h : Okk n fb co I A L) : coOK co := by
  obtain ⟨hT, hW, h18, hC, h1, h2⟩ := h
  rw [← h2]; exact coOK_L (vb_link hT hW (KA_ok (A := A)))
theorem ok_rk (h : Okk n fb co I A L) : TopS (SN fb co 21609) (rkB I A L) := by
  obtain ⟨hT, hW, h18, hC, h1, h2⟩ := h
  have := rk_ok hT hW (by rw [h1, h2]; exact hC)
  rw [h1, h2] at this; exact this
theorem ok_tr (h : Okk n fb co I A L) : TopS (SN fb co 21609) (tAll I A L 0).1 ∧ (tAll I A L 0).2.1 = nI (fb_ct (fun i => cb (alI fb i)) 21609) := by
  obtain ⟨hT, hW, h18, hC, h1, h2⟩ := h
  have := tr_ok hT hW h18 0 rfl
  rw [h1, h2] at this; exact ⟨this.1, this.2.1⟩
/-- after the ranking was asked for -/
theorem ok_R (h : Okk n fb co I A L) : Okk n fb co (va_up (va_up I 6 0) 7 (nI (rkB I A L).1)) A (va_up L 14 (rkB I A L).2) := by
  have hr := ok_rk h
  obtain ⟨hT, hW, h18, hC, h1, h2⟩ := h
  generalize rkB I A L = R at hr ⊢
  refine ⟨hT, hW, h18, ⟨R.1, hr.1, rfl, fun _ => hr⟩, ?_, ?_⟩
  · rw [← h1]; exact fbc rfl rfl rfl rfl
  · rw [← h2]; exact coc rfl rfl rfl rfl rfl
/-- after all charts were tried -/
theorem ok_T (t : TT) (h : Okk n fb co I A L) : Okk n fb co (va_up (va_up (va_up I 10 (nI t.1.1)) 8 t.2.1) 9 t.2.2) A (va_up L 17 t.1.2) := by
  obtain ⟨hT, hW, h18, hC, h1, h2⟩ := h
  refine ⟨hT, hW, h18, hC, ?_, ?_⟩
  · rw [← h1]; exact fbc rfl rfl rfl rfl
  · rw [← h2]; exact coc rfl rfl rfl rfl rfl
theorem pl_get (hc : coOK co) {t : Nat} (ht : t < 21609) : p_cost (plI co t) = co (codI t) ∧ p_chart (plI co t) = codI t := by
  obtain ⟨C, c1, c2⟩ := hc t ht
  unfold plI
  rw [c2, show codI t = nI (codT t) from rfl, p_of_N c1 (codT_lt ht), p_cost_N c1 (codT_lt ht), p_chart_N (codT_lt ht)]
  exact ⟨rfl, rfl⟩
/-- the law's row has the chart t at k -/
def At (fb co : Int32 → Int32) (B : Nat → Int64) (k t : Nat) : Prop := k < 5 ∧ t < 21609 ∧ B k = lkey co t
def Non (B : Nat → Int64) (k : Nat) : Prop := k = 5 ∨ (k < 5 ∧ B k = MX)
theorem at_rk (hc : coOK co) (hB : RB fb co 21609 B) {R : BT} (hR : TopS (SN fb co 21609) R) {k t : Nat} (h : At fb co B k t) : k < R.1 ∧ R.2 k = plI co t := by
  obtain ⟨r5, ⟨T, hT⟩, hM, -⟩ := RB_all hc hB hR
  obtain ⟨k5, t1, t2⟩ := h
  by_cases hk : k < R.1
  · obtain ⟨a1, a2, a3, a4⟩ := hT k hk
    have : T k = t := lkey_inj hc a1 t1 (a4.symm.trans t2)
    rw [this] at a3
    exact ⟨hk, a3⟩
  · have e := hM k (by omega) k5
    have := lkey_M hc t1
    rw [← t2, e] at this
    exact absurd this (by decide)
theorem non_rk (hc : coOK co) (hB : RB fb co 21609 B) {R : BT} (hR : TopS (SN fb co 21609) R) {k : Nat} (h : Non B k) : ¬ k < R.1 := by
  obtain ⟨r5, ⟨T, hT⟩, hM, -⟩ := RB_all hc hB hR
  intro hk
  rcases h with h | ⟨h1, h2⟩
  · omega
  · obtain ⟨a1, a2, a3, a4⟩ := hT k hk
    have := lkey_M hc a1
    rw [← a4, h2] at this
    exact absurd this (by decide)
theorem at_or (hc : coOK co) (hB : RB fb co 21609 B) {R : BT} (hR : TopS (SN fb co 21609) R) {k : Nat} (hk : k < 6) : Non B k ∨ ∃ t, At fb co B k t := by
  obtain ⟨r5, ⟨T, hT⟩, hM, -⟩ := RB_all hc hB hR
  by_cases h : k < R.1
  · obtain ⟨a1, a2, a3, a4⟩ := hT k h
    exact Or.inr ⟨T k, by omega, a1, a4⟩
  · by_cases h5 : k = 5
    · exact Or.inl (Or.inl h5)
    · exact Or.inl (Or.inr ⟨by omega, hM k (by omega) (by omega)⟩)
theorem isRk_n {b k : Nat} (h5 : b ≤ 5) (hk : k < 6) : isRk (nI b) (nI k) ↔ k < b := by
  unfold isRk
  rw [nI_ltI (by omega) (by omega), show (5 : Int32) = nI 5 from rfl, nI_ltI (by omega) (by decide)]
  constructor
  · intro z; exact z.2.1
  · intro z; exact ⟨nI_pos' (by omega), z, by omega⟩
variable {X : XS} {O : AH} {Q : AO → AH → Prop}
theorem ok_7 (h : Okk n fb co I A L) : ∃ k, I 7 = nI k ∧ k ≤ 5 := by
  obtain ⟨k, k5, k7, -⟩ := h.2.2.2.1
  exact ⟨k, k7, k5⟩
section ONE
variable {k t : Nat} (hk : k < 6) (h : Okk n fb co I A L) (hB : RB fb co 21609 B)
theorem q_cost_s (h : Okk n fb co I A L) (hB : RB fb co 21609 B) (ha : At fb co B k t) (hq : ∀ I' L', Okk n fb co I' A L' → Q (.inl (some (.int (co (codI t))))) (hp I' A L' O)) : Call X 124 [.ref 1, .int (nI k)] (hp I A L O) Q := by
  obtain ⟨z, z7, z5⟩ := ok_7 h
  have hc := ok_co h
  obtain ⟨r1, r2⟩ := at_rk hc hB (ok_rk h) ha
  have h5 := (ok_rk h).1
  refine c_L_cost z7 z5 (fun y => absurd ((isRk_n h5 (by omega)).mpr r1) y) (fun _ => ?_)
  rw [f_place_n r1 h5, r2, (pl_get hc ha.2.1).1]
  exact hq _ _ (ok_R h)
theorem q_cost_n (hk : k < 6) (h : Okk n fb co I A L) (hB : RB fb co 21609 B) (hn : Non B k) (hq : ∀ I' L', Okk n fb co I' A L' → Q (.inl (some (.int (-900001)))) (hp I' A L' O)) : Call X 124 [.ref 1, .int (nI k)] (hp I A L O) Q := by
  obtain ⟨z, z7, z5⟩ := ok_7 h
  have hr := non_rk (ok_co h) hB (ok_rk h) hn
  exact c_L_cost z7 z5 (fun _ => hq _ _ (ok_R h)) (fun y => absurd ((isRk_n (ok_rk h).1 hk).mp y) hr)
theorem q_mark_s (h : Okk n fb co I A L) (hB : RB fb co 21609 B) (ha : At fb co B k t) (hq : ∀ I' L', Okk n fb co I' A L' → Q (.inl (some (.int (g_mark (codI t))))) (hp I' A L' O)) : Call X 126 [.ref 1, .int (nI k)] (hp I A L O) Q := by
  obtain ⟨z, z7, z5⟩ := ok_7 h
  have hc := ok_co h
  obtain ⟨r1, r2⟩ := at_rk hc hB (ok_rk h) ha
  have h5 := (ok_rk h).1
  refine c_L_mark z7 z5 (fun y => absurd ((isRk_n h5 (by omega)).mpr r1) y) (fun _ => ?_)
  rw [f_place_n r1 h5, r2, (pl_get hc ha.2.1).2]
  exact hq _ _ (ok_R h)
theorem q_mark_n (hk : k < 6) (h : Okk n fb co I A L) (hB : RB fb co 21609 B) (hn : Non B k) (hq : ∀ I' L', Okk n fb co I' A L' → Q (.inl (some (.int (-900001)))) (hp I' A L' O)) : Call X 126 [.ref 1, .int (nI k)] (hp I A L O) Q := by
  obtain ⟨z, z7, z5⟩ := ok_7 h
  have hr := non_rk (ok_co h) hB (ok_rk h) hn
  exact c_L_mark z7 z5 (fun _ => hq _ _ (ok_R h)) (fun y => absurd ((isRk_n (ok_rk h).1 hk).mp y) hr)
theorem q_agg_s (h : Okk n fb co I A L) (hB : RB fb co 21609 B) (ha : At fb co B k t) (hq : ∀ I' L', Okk n fb co I' A L' → Q (.inl (some (.int (g_agg (codI t))))) (hp I' A L' O)) : Call X 127 [.ref 1, .int (nI k)] (hp I A L O) Q := by
  obtain ⟨z, z7, z5⟩ := ok_7 h
  have hc := ok_co h
  obtain ⟨r1, r2⟩ := at_rk hc hB (ok_rk h) ha
  have h5 := (ok_rk h).1
  refine c_L_aggregate z7 z5 (fun y => absurd ((isRk_n h5 (by omega)).mpr r1) y) (fun _ => ?_)
  rw [f_place_n r1 h5, r2, (pl_get hc ha.2.1).2]
  exact hq _ _ (ok_R h)
theorem q_agg_n (hk : k < 6) (h : Okk n fb co I A L) (hB : RB fb co 21609 B) (hn : Non B k) (hq : ∀ I' L', Okk n fb co I' A L' → Q (.inl (some (.int (-900001)))) (hp I' A L' O)) : Call X 127 [.ref 1, .int (nI k)] (hp I A L O) Q := by
  obtain ⟨z, z7, z5⟩ := ok_7 h
  have hr := non_rk (ok_co h) hB (ok_rk h) hn
  exact c_L_aggregate z7 z5 (fun _ => hq _ _ (ok_R h)) (fun y => absurd ((isRk_n (ok_rk h).1 hk).mp y) hr)
theorem q_col_s {c : Nat} (hc4 : c < 4) (h : Okk n fb co I A L) (hB : RB fb co 21609 B) (ha : At fb co B k t) (hq : ∀ I' L', Okk n fb co I' A L' → Q (.inl (some (.int (g_col (codI t) (nI c))))) (hp I' A L' O)) : Call X 128 [.ref 1, .int (nI k), .int (nI c)] (hp I A L O) Q := by
  obtain ⟨z, z7, z5⟩ := ok_7 h
  have hc := ok_co h
  obtain ⟨r1, r2⟩ := at_rk hc hB (ok_rk h) ha
  have h5 := (ok_rk h).1
  have hch : isChan (nI c) := ⟨nI_pos' (by omega), nI_lt (b := 4) hc4 (by decide)⟩
  refine c_L_column z7 z5 (fun y => absurd ((isRk_n h5 (by omega)).mpr r1) y) (fun _ y => absurd hch y) (fun _ _ => ?_)
  rw [f_place_n r1 h5, r2, (pl_get hc ha.2.1).2]
  exact hq _ _ (ok_R h)
theorem q_col_n {c : Int32} (hk : k < 6) (h : Okk n fb co I A L) (hB : RB fb co 21609 B) (hn : Non B k) (hq : ∀ I' L', Okk n fb co I' A L' → Q (.inl (some (.int (-900001)))) (hp I' A L' O)) : Call X 128 [.ref 1, .int (nI k), .int c] (hp I A L O) Q := by
  obtain ⟨z, z7, z5⟩ := ok_7 h
  have hr := non_rk (ok_co h) hB (ok_rk h) hn
  exact c_L_column z7 z5 (fun _ => hq _ _ (ok_R h)) (fun y _ => absurd ((isRk_n (ok_rk h).1 hk).mp y) hr) (fun y _ => absurd ((isRk_n (ok_rk h).1 hk).mp y) hr)
/-- the cost by trying: what the law takes it for -/
def triedV (A : Nat → Nat → Int32) (v : Int32) : Int32 := if usC (A 4) 6 ≤ 3 then v else -900001
theorem tri_p {v : Int32} (y : usC (A 4) 6 ≤ 3) : triedV A v = v := if_pos y
theorem tri_n {v : Int32} (y : ¬ usC (A 4) 6 ≤ 3) : triedV A v = -900001 := if_neg y
theorem lfi' {v w : Int32} {h : AH} (hq : Q (.inl (some (.int v))) h) (e : v = w) : Q (.inl (some (.int w))) h := e ▸ hq
theorem q_try_s (h : Okk n fb co I A L) (hB : RB fb co 21609 B) (ha : At fb co B k t) (hq : ∀ I' L', Okk n fb co I' A L' → Q (.inl (some (.int (triedV A (co (codI t)))))) (hp I' A L' O)) : Call X 125 [.ref 1, .int (nI k)] (hp I A L O) Q := by
  have hc := ok_co h
  have ht := (ok_tr h).1
  obtain ⟨r1, r2⟩ := at_rk hc hB ht ha
  have h5 := ht.1
  refine c_L_costByTrying (fun y => lfi' (hq _ _ (ok_T (tAll I A L 0) h)) (tri_n y)) (fun _ y => absurd ((isRk_n h5 (by omega)).mpr r1) y) (fun y _ => lfi' (hq _ _ (ok_T (tAll I A L 0) h)) ?_)
  rw [tri_p y, f_place_n r1 h5, r2, (pl_get hc ha.2.1).1]
theorem q_try_n (hk : k < 6) (h : Okk n fb co I A L) (hB : RB fb co 21609 B) (hn : Non B k) (hq : ∀ I' L', Okk n fb co I' A L' → Q (.inl (some (.int (triedV A (-900002))))) (hp I' A L' O)) : Call X 125 [.ref 1, .int (nI k)] (hp I A L O) Q := by
  have hr := non_rk (ok_co h) hB (ok_tr h).1 hn
  exact c_L_costByTrying (fun y => lfi' (hq _ _ (ok_T (tAll I A L 0) h)) (tri_n y)) (fun y _ => lfi' (hq _ _ (ok_T (tAll I A L 0) h)) (tri_p y)) (fun _ y => absurd ((isRk_n (ok_tr h).1.1 hk).mp y) hr)
end ONE
theorem q_allowed (h : Okk n fb co I A L) (hq : ∀ I' L', Okk n fb co I' A L' → Q (.inl (some (.int (nI (fb_ct (fun i => cb (alI fb i)) 21609))))) (hp I' A L' O)) : Call X 88 [.ref 1] (hp I A L O) Q := by
  refine c_X9_allowed ?_
  rw [(ok_tr h).2]
  exact hq _ _ (ok_T (tAll I A L 0) h)
theorem sn_at (hc : coOK co) {b : BT} (hb : TopS (SN fb co 21609) b) {z : Nat} (hz : z < b.1) : fb (p_chart (b.2 z)) = 0 ∧ co (p_chart (b.2 z)) = p_cost (b.2 z) ∧ p_of (co (p_chart (b.2 z))) (p_chart (b.2 z)) = b.2 z := by
  obtain ⟨t, t1, t2, t3⟩ := hb.2.2.1 z hz
  rw [← t3]
  obtain ⟨p1, p2⟩ := pl_get hc t1
  rw [p1, p2]
  exact ⟨t2.2, rfl, rfl⟩
theorem sound_f (hc : coOK co) {b c : BT} (hb : TopS (SN fb co 21609) b) (hd : TopS (SN fb co 21609) c) :
    (¬ isRk (nI b.1) 0 ∧ ¬ isRk (nI c.1) 0) ∨ (isRk (nI b.1) 0 ∧ isRk (nI c.1) 0 ∧ co (p_chart (f_place (nI b.1) b.2 0)) = p_cost (f_place (nI c.1) c.2 0)) := by
  obtain ⟨u1, u2⟩ := TopS_u hb hd
  have hb5 := hb.1
  rw [← u1]
  by_cases h0 : b.1 = 0
  · have n0 : ¬ isRk (nI b.1) 0 := by
      rw [h0]; decide
    exact Or.inl ⟨n0, n0⟩
  · have r0 : isRk (nI b.1) 0 := (isRk_n (k := 0) hb5 (by decide)).mpr (by omega)
    refine Or.inr ⟨r0, r0, ?_⟩
    rw [show (0 : Int32) = nI 0 from rfl, f_place_n (by omega) hb5, f_place_n (by omega) hb5, ← u2 0 (by omega)]
    exact (sn_at hc hb (by omega)).2.1
theorem q_sound (h : Okk n fb co I A L) (hq : ∀ I' L', Okk n fb co I' A L' → Q (.inl (some (.int 1))) (hp I' A L' O)) : Call X 94 [.ref 1] (hp I A L O) Q := by
  obtain ⟨k, k7, k5⟩ := ok_7 h
  have hco := ok_co h
  have hrk := ok_rk h
  have hR := ok_R h
  obtain ⟨e1, e2⟩ : f_fb I A = fb ∧ f_cost I A L = co := h.2.2.2.2
  have ht := (ok_tr hR).1
  have hTT := ok_T (tAll (va_up (va_up I 6 0) 7 (nI (rkB I A L).1)) A (va_up L 14 (rkB I A L).2) 0) hR
  refine c_X9_isSound k7 k5 (fun z hz => ?_) (fun z hz hlt => ?_) ?_ ?_
  · unfold okC; rw [e1]; exact (sn_at hco hrk hz).1
  · rw [e2, (sn_at hco hrk hz).2.2, (sn_at hco hrk (show z < (rkB I A L).1 by omega)).2.2] at hlt
    exact l_irr (l_tr hlt (hrk.2.1 z (z + 1) (by omega) hz))
  · have e3 := hTT.2.2.2.2.2
    rw [e3]
    exact sound_f hco hrk ht
  · exact hq _ _ hTT
end ASK
