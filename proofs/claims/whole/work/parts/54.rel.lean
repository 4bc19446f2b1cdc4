/-! the relation: what the class and the model know between two calls -/
theorem b2i_c {P Q : Prop} [Decidable P] [Decidable Q] (h : P ↔ Q) : b2i P = b2i Q := by
  by_cases hp : P
  · rw [b2i_t hp, b2i_t (h.mp hp)]
  · rw [b2i_f hp, b2i_f (fun z => hp (h.mpr z))]
theorem st_cg {f g : Nat → Int32} : ∀ {n : Nat}, (∀ r, r < n → f r = g r) → stCnt f n = stCnt g n ∧ stDif f n = stDif g n ∧ stSum f n = stSum g n ∧ stGap f n = stGap g n ∧ stLast f n = stLast g n ∧ stRis f n = stRis g n
  | 0, _ => ⟨rfl, rfl, rfl, rfl, rfl, rfl⟩
  | n + 1, h => by
    obtain ⟨h1, h2, h3, h4, h5, h6⟩ := st_cg (n := n) (fun r hr => h r (by omega))
    have e := h n (by omega)
    have en : isNew f n ↔ isNew g n := by
      constructor
      · intro z j hj; rw [← h j (by omega), ← e]; exact z j hj
      · intro z j hj; rw [h j (by omega), e]; exact z j hj
    have eb := b2i_c en
    refine ⟨?_, ?_, ?_, ?_, ?_, ?_⟩
    · rw [stCnt, stCnt, e, h1]
    · rw [stDif, stDif, eb, h2, e]
    · rw [stSum, stSum, e, h3]
    · rw [stGap, stGap, e, h4]
    · rw [stLast, stLast, e, h5]
    · rw [stRis, stRis, e, h6, h5]
theorem st_nu (f : Nat → Int32) : ∀ n, ∃ N U, N ≤ n ∧ U ≤ N ∧ stCnt f n = nI N ∧ stDif f n = nI U ∧ (N = 0 → ∀ r, r < n → f r = -10000) ∧ (U = 0 → N = 0)
  | 0 => ⟨0, 0, Nat.le_refl _, Nat.le_refl _, rfl, rfl, fun _ r hr => absurd hr (Nat.not_lt_zero r), fun _ => rfl⟩
  | n + 1 => by
    obtain ⟨N, U, h1, h2, h3, h4, h5, h6⟩ := st_nu f n
    by_cases hz : f n = -10000
    · refine ⟨N, U, by omega, h2, by rw [stCnt, if_pos hz, h3], by rw [stDif, if_pos hz, h4], fun hN r hr => ?_, h6⟩
      by_cases hr' : r = n
      · rw [hr']; exact hz
      · exact h5 hN r (by omega)
    · have e1 : stCnt f (n + 1) = nI (N + 1) := by rw [stCnt, if_neg hz, h3]; exact nI_1 _
      by_cases hw : isNew f n
      · refine ⟨N + 1, U + 1, by omega, by omega, e1, ?_, fun hN => by omega, fun hU => by omega⟩
        rw [stDif, if_neg hz, b2i_t hw, h4]; exact nI_1 _
      · refine ⟨N + 1, U, by omega, by omega, e1, ?_, fun hN => by omega, fun hU => ?_⟩
        · rw [stDif, if_neg hz, b2i_f hw, h4]; exact Int32.add_zero _
        · have hN := h6 hU
          exact absurd (fun j hj y => hz ((h5 hN j hj).symm.trans y).symm) hw
def FK (x y : Int32) : Prop := (x = -1 ∧ y = 0) ∨ (x = y ∧ (y = 2 ∨ y = 3 ∨ y = 4))
theorem kind_e {f : Nat → Int32} {n : Nat} {a b r : Int32} (h40 : n ≤ 40) (hf : FK a b) : g_kind (stCnt f n) (stDif f n) a r = m_kind (stCnt f n) (stDif f n) b r := by
  obtain ⟨N, U, h1, h2, h3, h4, h5, h6⟩ := st_nu f n
  rw [h3, h4]
  have n0 : nI N = 0 ↔ N = 0 := nI_eq (b := 0) (by omega) (by omega)
  have u1 : nI U = 1 ↔ U = 1 := nI_eq (b := 1) (by omega) (by omega)
  have u2 : nI U < 2 ↔ U < 2 := nI_ltI (b := 2) (by omega) (by omega)
  unfold g_kind m_kind
  by_cases c0 : N = 0
  · rw [if_pos (n0.mpr c0), if_pos (u2.mpr (by omega)), if_pos (n0.mpr c0)]
  rw [if_neg (fun z => c0 (n0.mp z))]
  by_cases c1 : U = 1
  · rw [if_pos (u1.mpr c1), if_pos (u2.mpr (by omega)), if_neg (fun z => c0 (n0.mp z))]
  have c2 : ¬ U < 2 := by intro z; have := h6; omega
  rw [if_neg (fun z => c1 (u1.mp z)), if_neg (fun z => c2 (u2.mp z))]
  rcases hf with ⟨rfl, rfl⟩ | ⟨rfl, hb⟩
  · rw [if_neg (show ¬ ¬ (-1 : Int32) = -1 by decide), if_neg (show ¬ (0 : Int32) < 0 by decide)]
  · have p : ¬ a = -1 ∧ 0 < a := by rcases hb with rfl | rfl | rfl <;> decide
    rw [if_pos p.1, if_pos p.2]
theorem kind_r {n u a b r : Int32} (hf : FK a b) : 0 ≤ g_kind n u a r ∧ g_kind n u a r ≤ 4 := by
  unfold g_kind
  by_cases c0 : n = 0
  · rw [if_pos c0]; decide
  rw [if_neg c0]
  by_cases c1 : u = 1
  · rw [if_pos c1]; decide
  rw [if_neg c1]
  by_cases c2 : ¬ a = -1
  · rw [if_pos c2]
    rcases hf with ⟨h1, -⟩ | ⟨rfl, hb⟩
    · exact absurd h1 c2
    · rcases hb with rfl | rfl | rfl <;> decide
  rw [if_neg c2]
  split
  · decide
  · split <;> decide
theorem upd_at (f : Nat → Int32) (i : Nat) (x : Int32) (j : Nat) : upd f i x j = if j = i then x else f j := by
  by_cases h : j = i
  · rw [if_pos h, h, pk_us]
  · rw [if_neg h, pk_un h]
theorem mkd_c {A B : Nat → Nat → Int32} (h2 : B 22 = A 22) (h3 : B 23 = A 23) (n c : Nat) : mkd B n c = mkd A n c := by
  have e : mv B = mv A := by funext c r; unfold mv; rw [h2]
  unfold mkd; rw [e, h3]
theorem knd_x (A : Nat → Nat → Int32) (n : Nat) : ∀ c, (∀ x, ¬ x = 25 → ¬ x = 26 → kndA A n c x = A x) ∧ ∀ j, j < c → kndA A n c 25 j = mkd A n j ∧ kndA A n c 26 j = stDif (mv A j) n
  | 0 => ⟨fun _ _ _ => rfl, fun j hj => absurd hj (Nat.not_lt_zero j)⟩
  | c + 1 => by
    obtain ⟨h1, h2⟩ := knd_x A n c
    rw [kndA]
    generalize kndA A n c = B at h1 h2
    have e22 : B 22 = A 22 := h1 22 (by decide) (by decide)
    have e23 : B 23 = A 23 := h1 23 (by decide) (by decide)
    refine ⟨fun x x5 x6 => ?_, fun j hj => ?_⟩
    · show (if x = 26 then _ else if x = 25 then _ else B x) = A x
      rw [if_neg x6, if_neg x5]; exact h1 x x5 x6
    · have em : mv (va_up B 25 (upd (B 25) c (mkd B n c))) c = mv A c := by
        funext r; show B 22 _ = A 22 _; rw [e22]
      constructor
      · show upd (B 25) c (mkd B n c) j = _
        rw [upd_at, mkd_c e22 e23]
        by_cases hz : j = c
        · rw [if_pos hz, hz]
        · rw [if_neg hz]; exact (h2 j (by omega)).1
      · show upd (B 26) c (stDif (mv (va_up B 25 (upd (B 25) c (mkd B n c))) c) n) j = _
        rw [upd_at, em]
        by_cases hz : j = c
        · rw [if_pos hz, hz]
        · rw [if_neg hz]; exact (h2 j (by omega)).2
/-- the table -/
def Tbl (n : Nat) (I : Nat → Int32) (A : Nat → Nat → Int32) (L : Nat → Nat → Int64) : Prop :=
  n ≤ 40 ∧ I 2 = nI n ∧ I 20 = nI n ∧ (∀ c r, c < 6 → r < n → cv A c r = mv A c r) ∧ (∀ c, c < 6 → FK (A 3 c) (A 23 c)) ∧
  ∀ c, c < 6 → A 5 c = stCnt (cv A c) n ∧ A 6 c = stDif (cv A c) n ∧ L 7 c = stSum (cv A c) n ∧ L 8 c = stGap (cv A c) n ∧ A 4 c = g_kind (stCnt (cv A c) n) (stDif (cv A c) n) (A 3 c) (stRis (cv A c) n)
/-- what was asked for -/
def Wsh (I : Nat → Int32) (A : Nat → Nat → Int32) : Prop :=
  I 3 = nI (bN (A 27) 6) ∧ (∀ j, j < 6 → A 27 j = 0 ∨ A 27 j = 1) ∧ I 4 = I 27 ∧ (isMk (I 4) ∨ I 4 = 45) ∧ I 5 = nI (bN (A 28) 24) ∧ (∀ j, j < 24 → A 28 j = 0 ∨ A 28 j = 1) ∧
  (∀ j, j < 8 → A 11 j = A 24 j ∧ 0 ≤ A 24 j ∧ A 24 j ≤ 99) ∧ I 0 = I 23 ∧ 0 ≤ I 0 ∧ I 0 ≤ 99
def Chr (c : Int32) (f : Nat → Int32) : Prop := ∃ t, t < 21609 ∧ dstI t ∧ c = codI t ∧ rowOf f t
/-- the charts -/
def Rst (I : Nat → Int32) (A : Nat → Nat → Int32) : Prop :=
  Chr (I 1) (A 30) ∧ ((I 12 = -1 ∧ I 28 = 0 ∧ vch (A 31) ∧ I 21 = 0) ∨ (I 28 = 1 ∧ Chr (I 12) (A 31))) ∧ (∃ q, q ≤ 4 ∧ I 11 = nI q ∧ I 21 = nI q ∧ ∀ i, i < q → Chr (A 20 i) (rowR (A 34) i)) ∧ A 18 = PLC
def CaC (fb co : Int32 → Int32) (I : Nat → Int32) (L : Nat → Nat → Int64) : Prop := ∃ k, k ≤ 5 ∧ I 7 = nI k ∧ (I 6 = 0 → TopS (SN fb co 21609) (k, L 14))
def MK (fb co : Int32 → Int32) (I : Nat → Int32) (A : Nat → Nat → Int32) : Prop :=
  (∀ c, c < 6 → A 25 c = A 4 c ∧ A 26 c = A 6 c) ∧ ∃ b : BT, TopS (SN fb co 21609) b ∧ I 22 = nI b.1 ∧ ML fb co (b.1, A 33, A 32) b ∧ I 24 = nI (fb_ct (fun i => cb (alI fb i)) 21609) ∧
  ∃ T, T < 21609 ∧ I 1 = codI T ∧ I 25 = nI (fb_ct (fun i => cb (alI fb i ∧ plI co i < plI co T)) 21609)
def CaM (fb co : Int32 → Int32) (I : Nat → Int32) (A : Nat → Nat → Int32) : Prop := I 29 = 0 ∨ MK fb co I A
def Rel (I : Nat → Int32) (A : Nat → Nat → Int32) (L : Nat → Nat → Int64) (_ : Nat → UInt64) : Prop :=
  ∃ n, Tbl n I A L ∧ Wsh I A ∧ Rst I A ∧ CaC (f_fb I A) (f_cost I A L) I L ∧ CaM (f_fb I A) (f_cost I A L) I A
section REL
variable {n : Nat} {I I' : Nat → Int32} {A A' : Nat → Nat → Int32} {L L' : Nat → Nat → Int64} {B : Nat → Nat → Int32}
theorem fbc (h3 : I' 3 = I 3) (h4 : I' 4 = I 4) (h5 : I' 5 = I 5) (k4 : A' 4 = A 4) : f_fb I' A' = f_fb I A := by
  funext c
  have e : ∀ k, kd A' c k = kd A c k := by intro k; unfold kd f_kindAt; rw [k4]
  have e2 : f_forbs I' c = f_forbs I c := by unfold f_forbs f_forb; rw [h5]
  have e3 : f_wished I' c = f_wished I c := by unfold f_wished; rw [h3, h4]
  have e4 : f_dull A' c = f_dull A c := by unfold f_dull; rw [e, e, e, e]
  unfold f_fb f_hgt
  simp only [e, e2, e3, e4]
theorem coc (h2 : I' 2 = I 2) (k4 : A' 4 = A 4) (k6 : A' 6 = A 6) (k11 : A' 11 = A 11) (l8 : L' 8 = L 8) : f_cost I' A' L' = f_cost I A L := by
  funext c
  have e : ∀ k, kd A' c k = kd A c k := by intro k; unfold kd f_kindAt; rw [k4]
  have e2 : f_soft I' A' c = f_soft I A c := by
    unfold f_soft f_differentIn
    simp only [e, h2, k6]
  have e3 : f_base A' c = f_base A c := by unfold f_base; rw [e, e, e, e]
  have e4 : f_gap L' c = f_gap L c := by unfold f_gap f_gapsIn; rw [l8]
  unfold f_cost
  rw [e2, e3, e4, k11]
theorem link_of (hT : Tbl n I A L) (hW : Wsh I A) (h22 : B 22 = A 22) (h24 : B 24 = A 24) (h27 : B 27 = A 27) (h28 : B 28 = A 28) (hk : ∀ c, c < 6 → B 25 c = A 4 c ∧ B 26 c = A 6 c) : Link n I A L B := by
  obtain ⟨t1, t2, t3, t4, t5, t6⟩ := hT
  obtain ⟨w1, w2, w3, w4, w5, w6, w7, w8⟩ := hW
  refine ⟨t1, t2, fun j hj => ?_, fun c r hc hr => ?_, by rw [h27]; exact w1, by rw [h28]; exact w5, fun j hj => by rw [h24]; exact w7 j hj⟩
  · obtain ⟨a1, a2, a3, a4, a5⟩ := t6 j hj
    have := kind_r (n := stCnt (cv A j) n) (u := stDif (cv A j) n) (r := stRis (cv A j) n) (t5 j hj)
    rw [← a5] at this
    exact ⟨(hk j hj).1, (hk j hj).2, this.1, this.2, a4⟩
  · rw [t4 c r hc hr]; unfold mv; rw [h22]
theorem mkd_e (hT : Tbl n I A L) {c : Nat} (hc : c < 6) : mkd A n c = A 4 c ∧ stDif (mv A c) n = A 6 c ∧ stCnt (mv A c) n = A 5 c ∧ stSum (mv A c) n = L 7 c := by
  obtain ⟨t1, t2, t3, t4, t5, t6⟩ := hT
  obtain ⟨a1, a2, a3, a4, a5⟩ := t6 c hc
  obtain ⟨e1, e2, e3, e4, e5, e6⟩ := st_cg (f := cv A c) (g := mv A c) (n := n) (fun r hr => t4 c r hc hr)
  refine ⟨?_, by rw [a2, e2], by rw [a1, e1], by rw [a3, e3]⟩
  unfold mkd
  rw [a5, kind_e t1 (t5 c hc), e1, e2, e6]
theorem knd_link (hT : Tbl n I A L) (hW : Wsh I A) : Link n I A L (kndA A n 6) := by
  obtain ⟨h1, h2⟩ := knd_x A n 6
  refine link_of hT hW (h1 22 (by decide) (by decide)) (h1 24 (by decide) (by decide)) (h1 27 (by decide) (by decide)) (h1 28 (by decide) (by decide)) (fun c hc => ?_)
  obtain ⟨e1, e2, -⟩ := mkd_e hT hc
  rw [(h2 c hc).1, (h2 c hc).2]; exact ⟨e1, e2⟩
theorem dig_row {f : Nat → Int32} {t : Nat} (h : rowOf f t) : digF f (dm t) (da t) (d0 t) (d1 t) (d2 t) (d3 t) := h
theorem fb_row (hL : Link n I A L B) {f : Nat → Int32} {t : Nat} (ht : t < 21609) (h : rowOf f t) : m_fb (I 4) B f = f_fb I A (codI t) := (fb_eq hL (dgt_t ht) (dig_row h)).symm
theorem co_row (hL : Link n I A L B) {f : Nat → Int32} {t : Nat} (ht : t < 21609) (hd : dstI t) (h : rowOf f t) : m_cost n B f = f_cost I A L (codI t) := cost_eq hL (dgt_t ht) hd (dig_row h)
theorem row_vch {f : Nat → Int32} {t : Nat} (ht : t < 21609) (h : rowOf f t) : vch f := by
  obtain ⟨g1, g2, g3, g4, g5, g6⟩ := dgt_t ht
  obtain ⟨h0, h1, h2, h3, h4, h5⟩ := h
  intro k hk
  rcases (show k = 0 ∨ k = 1 ∨ k = 2 ∨ k = 3 by omega) with rfl | rfl | rfl | rfl
  · show _ ≤ f 2 ∧ f 2 < _; rw [h2]; exact xI_in g3
  · show _ ≤ f 3 ∧ f 3 < _; rw [h3]; exact xI_in g4
  · show _ ≤ f 4 ∧ f 4 < _; rw [h4]; exact xI_in g5
  · show _ ≤ f 5 ∧ f 5 < _; rw [h5]; exact xI_in g6
theorem chr_vch {c : Int32} {f : Nat → Int32} (h : Chr c f) : vch f := by
  obtain ⟨t, h1, -, -, h4⟩ := h; exact row_vch h1 h4
/-- the class's ranking -/
theorem rk_ok (hT : Tbl n I A L) (hW : Wsh I A) (hC : CaC (f_fb I A) (f_cost I A L) I L) : TopS (SN (f_fb I A) (f_cost I A L) 21609) (rkB I A L) := by
  have hL := knd_link hT hW
  unfold rkB
  by_cases h : I 6 = 0
  · rw [if_pos h]
    obtain ⟨k, k5, k7, kt⟩ := hC
    rw [k7, nI_clamp (by omega)]; exact kt h
  · rw [if_neg h]; exact f_all (coOK_L hL) (Hop_L hL) (L 14)
/-- the trial -/
theorem tr_ok (hT : Tbl n I A L) (hW : Wsh I A) (h18 : A 18 = PLC) (cmp : Int64) {t : TT} (ht : tAll I A L cmp = t) :
    TopS (SN (f_fb I A) (f_cost I A L) 21609) t.1 ∧ t.2.1 = nI (fb_ct (fun i => cb (alI (f_fb I A) i)) 21609) ∧ t.2.2 = nI (fb_ct (fun i => cb (alI (f_fb I A) i ∧ plI (f_cost I A L) i < cmp)) 21609) := by
  have hL := knd_link hT hW
  rw [tAll.eq_1, h18] at ht
  exact t_all (coOK_L hL) (fun m a s0 s1 s2 s3 hd hz => dull_L hd hz) (L 17) ht
/-- the model's round -/
theorem mk_key (hT : Tbl n I A L) (hW : Wsh I A) {T : Nat} (hT1 : T < 21609) (hT2 : dstI T) (hT4 : rowOf (A 30) T) {S : MS}
    (hS : fl (mSt (I 27) n (kndA A n 6) (kndA A n 6 30) (m_cost n (kndA A n 6) (kndA A n 6 30))) 21609 0 ((0, kndA A n 6 33, kndA A n 6 32), 0, 0, 1, kndA A n 6 29) = S) : RM (f_fb I A) (f_cost I A L) T 21609 S := by
  have hL := knd_link hT hW
  have e30 : kndA A n 6 30 = A 30 := (knd_x A n 6).1 30 (by decide) (by decide)
  generalize kndA A n 6 = K at hS hL e30
  rw [e30] at hS
  have hcost : m_cost n K (A 30) = f_cost I A L (codI T) := co_row hL hT1 hT2 hT4
  exact m_all (coOK_L hL) hT1 hT4 hcost (fun f t ht hd hr => by rw [← hW.2.2.1, fb_row hL ht hr]) (fun f t ht hd hr => co_row hL ht hd hr) 21609 (Nat.le_refl _) hS
theorem mk_fin {fb co : Int32 → Int32} {K : Nat → Nat → Int32} {J : Nat → Int32} {S : MS} {T : Nat} (hT1 : T < 21609) (hT3 : J 1 = codI T) (hk : ∀ c, c < 6 → K 25 c = K 4 c ∧ K 26 c = K 6 c) (key : RM fb co T 21609 S) :
    MK fb co (va_up (va_up (va_up (va_up J 29 1) 22 (nI S.1.1)) 24 S.2.1) 25 S.2.2.1) (va_up (va_up (va_up K 29 S.2.2.2.2) 33 S.1.2.1) 32 S.1.2.2) := by
  obtain ⟨b, k1, k2, k3, k4, k5⟩ := key
  obtain ⟨k2a, k2b⟩ := k2
  refine ⟨hk, b, k1, ?_, ?_, k3, T, hT1, hT3, k4⟩
  · show nI S.1.1 = nI b.1
    rw [k2a]
  · refine ⟨rfl, fun j hj => k2b j ?_⟩
    have hj' : j < b.1 := hj
    omega
theorem mk_ok (hT : Tbl n I A L) (hW : Wsh I A) (hD : Chr (I 1) (A 30)) (hM : CaM (f_fb I A) (f_cost I A L) I A) : MK (f_fb I A) (f_cost I A L) (mkI I n A) (mkA I n A) := by
  unfold mkI mkA
  by_cases h : I 29 = 0
  · rw [if_pos h, if_pos h]
    obtain ⟨T, hT1, hT2, hT3, hT4⟩ := hD
    obtain ⟨x1, x2⟩ := knd_x A n 6
    have hS := mkS_e (I 27) n A
    generalize mkS (I 27) n A = S at hS ⊢
    have key := mk_key hT hW hT1 hT2 hT4 hS
    have hk : ∀ c, c < 6 → kndA A n 6 25 c = kndA A n 6 4 c ∧ kndA A n 6 26 c = kndA A n 6 6 c := by
      intro c hc
      obtain ⟨e1, e2, -⟩ := mkd_e hT hc
      rw [(x2 c hc).1, (x2 c hc).2, x1 4 (by decide) (by decide), x1 6 (by decide) (by decide)]
      exact ⟨e1, e2⟩
    exact mk_fin hT1 hT3 hk key
  · rw [if_neg h, if_neg h]
    exact hM.resolve_left h
theorem mk_fI (i : Nat) (h1 : ¬ i = 22) (h2 : ¬ i = 24) (h3 : ¬ i = 25) (h4 : ¬ i = 29) : mkI I n A i = I i := by
  unfold mkI
  by_cases h : I 29 = 0
  · rw [if_pos h]
    show (if i = 25 then _ else if i = 24 then _ else if i = 22 then _ else if i = 29 then _ else I i) = I i
    rw [if_neg h3, if_neg h2, if_neg h1, if_neg h4]
  · rw [if_neg h]
theorem mk_fA (x : Nat) (h1 : ¬ x = 25) (h2 : ¬ x = 26) (h3 : ¬ x = 29) (h4 : ¬ x = 32) (h5 : ¬ x = 33) : mkA I n A x = A x := by
  unfold mkA
  by_cases h : I 29 = 0
  · rw [if_pos h]
    show (if x = 32 then _ else if x = 33 then _ else if x = 29 then _ else kndA A n 6 x) = A x
    rw [if_neg h4, if_neg h5, if_neg h3, (knd_x A n 6).1 x h1 h2]
  · rw [if_neg h]
end REL
