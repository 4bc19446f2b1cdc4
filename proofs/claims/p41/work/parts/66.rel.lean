/-! what the class and the law's numbers have in common between two calls -/
theorem b2i_c {P Q : Prop} [Decidable P] [Decidable Q] (h : P ↔ Q) : b2i P = b2i Q := by
  by_cases hp : P
  · rw [b2i_t hp, b2i_t (h.mp hp)]
  · rw [b2i_f hp, b2i_f (fun z => hp (h.mpr z))]
theorem st_cg {f g : Nat → Int32} : ∀ {n : Nat}, (∀ r, r < n → f r = g r) → stCnt f n = stCnt g n ∧ stDif f n = stDif g n ∧ stSum f n = stSum g n ∧ stGap f n = stGap g n ∧ stLast f n = stLast g n ∧ stRis f n = stRis g n
  | 0, _ => ⟨rfl, rfl, rfl, rfl, rfl, rfl⟩
  | n + 1, h => by
    obtain ⟨h1, h2, h3, h4, h5, h6⟩ := st_cg (n := n) (fun r hr => h r (by omega))
    have e := h n (by omega)
    have en : isNew f n ↔ isNew g n := by
      constructor
      · intro z j hj; rw [← h j (by omega), ← e]; exact z j hj
      · intro z j hj; rw [h j (by omega), e]; exact z j hj
    have eb := b2i_c en
    refine ⟨?_, ?_, ?_, ?_, ?_, ?_⟩
    · rw [stCnt, stCnt, e, h1]
    · rw [stDif, stDif, eb, h2, e]
    · rw [stSum, stSum, e, h3]
    · rw [stGap, stGap, e, h4]
    · rw [stLast, stLast, e, h5]
    · rw [stRis, stRis, e, h6, h5]
theorem st_nu (f : Nat → Int32) : ∀ n, ∃ N U, N ≤ n ∧ U ≤ N ∧ stCnt f n = nI N ∧ stDif f n = nI U ∧ (N = 0 → ∀ r, r < n → f r = -10000) ∧ (U = 0 → N = 0)
  | 0 => ⟨0, 0, Nat.le_refl _, Nat.le_refl _, rfl, rfl, fun _ r hr => absurd hr (Nat.not_lt_zero r), fun _ => rfl⟩
  | n + 1 => by
    obtain ⟨N, U, h1, h2, h3, h4, h5, h6⟩ := st_nu f n
    by_cases hz : f n = -10000
    · refine ⟨N, U, by omega, h2, by rw [stCnt, if_pos hz, h3], by rw [stDif, if_pos hz, h4], fun hN r hr => ?_, h6⟩
      by_cases hr' : r = n
      · rw [hr']; exact hz
      · exact h5 hN r (by omega)
    · have e1 : stCnt f (n + 1) = nI (N + 1) := by rw [stCnt, if_neg hz, h3]; exact nI_1 _
      by_cases hw : isNew f n
      · refine ⟨N + 1, U + 1, by omega, by omega, e1, ?_, fun hN => by omega, fun hU => by omega⟩
        rw [stDif, if_neg hz, b2i_t hw, h4]; exact nI_1 _
      · refine ⟨N + 1, U, by omega, by omega, e1, ?_, fun hN => by omega, fun hU => ?_⟩
        · rw [stDif, if_neg hz, b2i_f hw, h4]; exact Int32.add_zero _
        · have hN := h6 hU
          exact absurd (fun j hj y => hz ((h5 hN j hj).symm.trans y).symm) hw
def FK (x y : Int32) : Prop := (x = -1 ∧ y = 0) ∨ (x = y ∧ (y = 2 ∨ y = 3 ∨ y = 4))
theorem kind_e {f : Nat → Int32} {n : Nat} {a b r : Int32} (h40 : n ≤ 40) (hf : FK a b) : g_kind (stCnt f n) (stDif f n) a r = m_kind (stCnt f n) (stDif f n) b r := by
  obtain ⟨N, U, h1, h2, h3, h4, h5, h6⟩ := st_nu f n
  rw [h3, h4]
  have n0 : nI N = 0 ↔ N = 0 := nI_eq (b := 0) (by omega) (by omega)
  have u1 : nI U = 1 ↔ U = 1 := nI_eq (b := 1) (by omega) (by omega)
  have u2 : nI U < 2 ↔ U < 2 := nI_ltI (b := 2) (by omega) (by omega)
  unfold g_kind m_kind
  by_cases c0 : N = 0
  · rw [if_pos (n0.mpr c0), if_pos (u2.mpr (by omega)), if_pos (n0.mpr c0)]
  rw [if_neg (fun z => c0 (n0.mp z))]
  by_cases c1 : U = 1
  · rw [if_pos (u1.mpr c1), if_pos (u2.mpr (by omega)), if_neg (fun z => c0 (n0.mp z))]
  have c2 : ¬ U < 2 := by intro z; have := h6; omega
  rw [if_neg (fun z => c1 (u1.mp z)), if_neg (fun z => c2 (u2.mp z))]
  rcases hf with ⟨rfl, rfl⟩ | ⟨rfl, hb⟩
  · rw [if_neg (show ¬ ¬ (-1 : Int32) = -1 by decide), if_neg (show ¬ (0 : Int32) < 0 by decide)]
  · have p : ¬ a = -1 ∧ 0 < a := by rcases hb with rfl | rfl | rfl <;> decide
    rw [if_pos p.1, if_pos p.2]
theorem kind_r {n u a b r : Int32} (hf : FK a b) : 0 ≤ g_kind n u a r ∧ g_kind n u a r ≤ 4 := by
  unfold g_kind
  by_cases c0 : n = 0
  · rw [if_pos c0]; decide
  rw [if_neg c0]
  by_cases c1 : u = 1
  · rw [if_pos c1]; decide
  rw [if_neg c1]
  by_cases c2 : ¬ a = -1
  · rw [if_pos c2]
    rcases hf with ⟨h1, -⟩ | ⟨rfl, hb⟩
    · exact absurd h1 c2
    · rcases hb with rfl | rfl | rfl <;> decide
  rw [if_neg c2]
  split
  · decide
  · split <;> decide
theorem upd_at (f : Nat → Int32) (i : Nat) (x : Int32) (j : Nat) : upd f i x j = if j = i then x else f j := by
  by_cases h : j = i
  · rw [if_pos h, h, pk_us]
  · rw [if_neg h, pk_un h]
/-- the table -/
def Tbl (n : Nat) (I : Nat → Int32) (A : Nat → Nat → Int32) (L : Nat → Nat → Int64) : Prop :=
  n ≤ 40 ∧ I 2 = nI n ∧ A 30 0 = nI n ∧ (∀ c r, c < 6 → r < n → cv A c r = nv A c r ∧ isVal (nv A c r)) ∧ (∀ c, c < 6 → FK (A 3 c) (A 30 (10 + c))) ∧
  ∀ c, c < 6 → A 5 c = stCnt (cv A c) n ∧ A 6 c = stDif (cv A c) n ∧ L 7 c = stSum (cv A c) n ∧ L 8 c = stGap (cv A c) n ∧ A 4 c = g_kind (stCnt (cv A c) n) (stDif (cv A c) n) (A 3 c) (stRis (cv A c) n)
/-- is a column forbidden in a channel: the law's bits, one by one -/
def gF (A : Nat → Nat → Int32) (j : Nat) : Int32 := (A 30 (40 + j / 4) >>> (nI (j % 4) &&& 31)) &&& 1
/-- what was asked for -/
def Wsh (I : Nat → Int32) (A : Nat → Nat → Int32) : Prop :=
  I 3 = nI (bN (fun j => A 30 (30 + j)) 6) ∧ (∀ j, j < 6 → A 30 (30 + j) = 0 ∨ A 30 (30 + j) = 1) ∧ A 30 1 = I 4 ∧ (isMk (I 4) ∨ I 4 = 45) ∧ I 5 = nI (bN (gF A) 24) ∧ (∀ j, j < 6 → ∃ F, F < 16 ∧ A 30 (40 + j) = nI F) ∧
  ∀ j, j < 8 → A 11 j = A 30 (20 + j) ∧ 0 ≤ A 30 (20 + j) ∧ A 30 (20 + j) ≤ 99
def CaC (fb co : Int32 → Int32) (I : Nat → Int32) (L : Nat → Nat → Int64) : Prop := ∃ k, k ≤ 5 ∧ I 7 = nI k ∧ (I 6 = 0 → TopS (SN fb co 21609) (k, L 14))
def RelL (I : Nat → Int32) (A : Nat → Nat → Int32) (L : Nat → Nat → Int64) : Prop :=
  ∃ n, Tbl n I A L ∧ Wsh I A ∧ A 18 = PLC ∧ CaC (f_fb I A) (f_cost I A L) I L
/-- the law's kinds are the class's -/
def KO (A : Nat → Nat → Int32) (K : Nat → Int32) : Prop := ∀ c, c < 6 → K c = A 4 c ∧ K (6 + c) = A 6 c
section REL
variable {n : Nat} {I I' : Nat → Int32} {A A' : Nat → Nat → Int32} {L L' : Nat → Nat → Int64} {K : Nat → Int32}
theorem fbc (h3 : I' 3 = I 3) (h4 : I' 4 = I 4) (h5 : I' 5 = I 5) (k4 : A' 4 = A 4) : f_fb I' A' = f_fb I A := by
  funext c
  have e : ∀ k, kd A' c k = kd A c k := by intro k; unfold kd f_kindAt; rw [k4]
  have e2 : f_forbs I' c = f_forbs I c := by unfold f_forbs f_forb; rw [h5]
  have e3 : f_wished I' c = f_wished I c := by unfold f_wished; rw [h3, h4]
  have e4 : f_dull A' c = f_dull A c := by unfold f_dull; rw [e, e, e, e]
  unfold f_fb f_hgt
  simp only [e, e2, e3, e4]
theorem coc (h2 : I' 2 = I 2) (k4 : A' 4 = A 4) (k6 : A' 6 = A 6) (k11 : A' 11 = A 11) (l8 : L' 8 = L 8) : f_cost I' A' L' = f_cost I A L := by
  funext c
  have e : ∀ k, kd A' c k = kd A c k := by intro k; unfold kd f_kindAt; rw [k4]
  have e2 : f_soft I' A' c = f_soft I A c := by
    unfold f_soft f_differentIn
    simp only [e, h2, k6]
  have e3 : f_base A' c = f_base A c := by unfold f_base; rw [e, e, e, e]
  have e4 : f_gap L' c = f_gap L c := by unfold f_gap f_gapsIn; rw [l8]
  unfold f_cost
  rw [e2, e3, e4, k11]
theorem vb_link (hT : Tbl n I A L) (hW : Wsh I A) (hK : KO A K) : Link n I A L (VB A K) := by
  obtain ⟨t1, t2, t3, t4, t5, t6⟩ := hT
  obtain ⟨w1, w2, w3, w4, w5, w6, w7⟩ := hW
  refine ⟨t1, t2, fun j hj => ?_, fun c r hc hr => (t4 c r hc hr).1, w1, w5, fun j hj => w7 j hj⟩
  obtain ⟨a1, a2, a3, a4, a5⟩ := t6 j hj
  have := kind_r (n := stCnt (cv A j) n) (u := stDif (cv A j) n) (r := stRis (cv A j) n) (t5 j hj)
  rw [← a5] at this
  exact ⟨(hK j hj).1, (hK j hj).2, this.1, this.2, a4⟩
/-- some row of kinds, for what needs one -/
def KA (A : Nat → Nat → Int32) (j : Nat) : Int32 := if j < 6 then A 4 j else A 6 (j - 6)
theorem KA_ok : KO A (KA A) := fun c hc => ⟨if_pos hc, by unfold KA; rw [if_neg (by omega), Nat.add_sub_cancel_left]⟩
theorem nkd_e (hT : Tbl n I A L) {c : Nat} (hc : c < 6) : nkd A n c = A 4 c ∧ stDif (nv A c) n = A 6 c ∧ stCnt (nv A c) n = A 5 c ∧ stSum (nv A c) n = L 7 c := by
  obtain ⟨t1, t2, t3, t4, t5, t6⟩ := hT
  obtain ⟨a1, a2, a3, a4, a5⟩ := t6 c hc
  obtain ⟨e1, e2, e3, e4, e5, e6⟩ := st_cg (f := cv A c) (g := nv A c) (n := n) (fun r hr => (t4 c r hc hr).1)
  refine ⟨?_, by rw [a2, e2], by rw [a1, e1], by rw [a3, e3]⟩
  unfold nkd
  rw [a5, kind_e t1 (t5 c hc), e1, e2, e6]
theorem tv_ok (hT : Tbl n I A L) : ∀ c, c < 6 → ∀ r, r < n → isVal (nv A c r) := fun c hc r hr => (hT.2.2.2.1 c r hc hr).2
theorem KO_of (hT : Tbl n I A L) (h : ∀ c, c < 6 → K c = nkd A n c ∧ K (6 + c) = stDif (nv A c) n) : KO A K := fun c hc => ⟨(h c hc).1.trans (nkd_e hT hc).1, (h c hc).2.trans (nkd_e hT hc).2.1⟩
theorem KO_r (hT : Tbl n I A L) (hW : Wsh I A) (hK : KO A K) : ∀ c, c < 6 → 0 ≤ K c ∧ K c ≤ 4 := fun c hc => by
  have := (vb_link hT hW hK).2.2.1 c hc
  rw [(hK c hc).1]; exact ⟨this.2.2.1, this.2.2.2.1⟩
/-- the class's ranking -/
theorem rk_ok (hT : Tbl n I A L) (hW : Wsh I A) (hC : CaC (f_fb I A) (f_cost I A L) I L) : TopS (SN (f_fb I A) (f_cost I A L) 21609) (rkB I A L) := by
  have hL := vb_link hT hW (KA_ok (A := A))
  unfold rkB
  by_cases h : I 6 = 0
  · rw [if_pos h]
    obtain ⟨k, k5, k7, kt⟩ := hC
    rw [k7, nI_clamp (by omega)]; exact kt h
  · rw [if_neg h]; exact f_all (coOK_L hL) (Hop_L hL) (L 14)
/-- the trial -/
theorem tr_ok (hT : Tbl n I A L) (hW : Wsh I A) (h18 : A 18 = PLC) (cmp : Int64) {t : TT} (ht : tAll I A L cmp = t) :
    TopS (SN (f_fb I A) (f_cost I A L) 21609) t.1 ∧ t.2.1 = nI (fb_ct (fun i => cb (alI (f_fb I A) i)) 21609) ∧ t.2.2 = nI (fb_ct (fun i => cb (alI (f_fb I A) i ∧ plI (f_cost I A L) i < cmp)) 21609) := by
  have hL := vb_link hT hW (KA_ok (A := A))
  rw [tAll.eq_1, h18] at ht
  exact t_all (coOK_L hL) (fun m a s0 s1 s2 s3 hd hz => dull_L hd hz) (L 17) ht
end REL
