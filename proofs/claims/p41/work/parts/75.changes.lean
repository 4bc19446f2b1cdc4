/-! the class's changes, as the law asks for them -/
section CHG
variable {n : Nat} {I : Nat → Int32} {A : Nat → Nat → Int32} {L : Nat → Nat → Int64} {fb co : Int32 → Int32} {X : XS} {O : AH} {Q : AO → AH → Prop}
theorem v6_R (R : Nat → Int32) {k : Nat} (hk : k < 6) : v6 (R 0) (R 1) (R 2) (R 3) (R 4) (R 5) k = R k := by
  rcases (show k = 0 ∨ k = 1 ∨ k = 2 ∨ k = 3 ∨ k = 4 ∨ k = 5 by omega) with rfl | rfl | rfl | rfl | rfl | rfl <;> rfl
theorem all_val {R : Nat → Int32} (h : ∀ j, j < 6 → isVal (R j)) : isVal (R 0) ∧ isVal (R 1) ∧ isVal (R 2) ∧ isVal (R 3) ∧ isVal (R 4) ∧ isVal (R 5) := ⟨h 0 (by decide), h 1 (by decide), h 2 (by decide), h 3 (by decide), h 4 (by decide), h 5 (by decide)⟩
theorem q_addRow {R N : Nat → Int32} {A1 : Nat → Nat → Int32} (hT : Tbl n I A L) (hW : Wsh I A) (h18 : A 18 = PLC) (hC : CaC fb co I L) (hn : n < 40) (hR : ∀ j, j < 6 → isVal (R j)) (e1 : A1 = va_up A 30 N) (h0 : N 0 = nI (n + 1)) (hlt : ∀ x, 0 < x → x < 100 → N x = A 30 x)
    (hN : ∀ k r, k < 6 → r < n + 1 → N (100 + (6 * r + k)) = if r = n then R k else nv A k r)
    (hq : ∀ I' A' L', RelL I' A' L' → A' 30 0 = nI (n + 1) → Q (.inl (some (.int (nI (n + 1))))) (hp I' A' L' O)) :
    Call X 109 [.ref 1, .int (R 0), .int (R 1), .int (R 2), .int (R 3), .int (R 4), .int (R 5)] (hp I A1 L O) Q := by
  have hrel := add_rel (a := R 0) (b := R 1) (c := R 2) (d := R 3) (e := R 4) (f := R 5) hT hW h18 hC hn (fun k hk => by rw [v6_R R hk]; exact hR k hk) e1 h0 hlt (fun k r hk hr => by rw [hN k r hk hr, v6_R R hk])
  have e0 : stA (apA A1 n (R 0) (R 1) (R 2) (R 3) (R 4) (R 5)) (n + 1) 6 30 0 = nI (n + 1) := by
    rw [(stA_x _ _ 6).1 30 (by decide) (by decide) (by decide)]
    show A1 30 0 = _
    rw [e1]; exact h0
  exact c_L_addRow (hn := hT.2.1) (hn40 := hT.1) (h1 := fun y => absurd (all_val hR) y) (h2 := fun _ y => absurd y (by omega)) (h3 := fun _ _ => hq _ _ _ hrel e0)
theorem q_addFull {R : Nat → Int32} (hT : Tbl n I A L) (hn : n = 40) (hR : ∀ j, j < 6 → isVal (R j)) (hq : Q (.inl (some (.int (-900002)))) (hp I A L O)) : Call X 109 [.ref 1, .int (R 0), .int (R 1), .int (R 2), .int (R 3), .int (R 4), .int (R 5)] (hp I A L O) Q :=
  c_L_addRow (hn := hT.2.1) (hn40 := hT.1) (h1 := fun y => absurd (all_val hR) y) (h2 := fun _ _ => hq) (h3 := fun _ y => absurd y (by omega))
theorem q_force {j : Nat} {k : Int32} {A1 : Nat → Nat → Int32} (hT : Tbl n I A L) (hW : Wsh I A) (h18 : A 18 = PLC) (hC : CaC fb co I L) (hj : j < 6) (hk : k = 2 ∨ k = 3 ∨ k = 4) (e1 : A1 = va_up A 30 (upd (A 30) (10 + j) k))
    (hq : ∀ I' A' L', Tbl n I' A' L' → RelL I' A' L' → Q (.inl (some (.int (A' 4 j)))) (hp I' A' L' O)) : Call X 117 [.ref 1, .int (nI j), .int k] (hp I A1 L O) Q := by
  obtain ⟨h1, h2⟩ := force_rel hT hW h18 hC hj (show FK k k from Or.inr ⟨rfl, hk⟩) e1 rfl
  refine c_L_force (hn := hT.2.1) (hn40 := hT.1) (h1 := fun y => absurd (isCol_n hj) y) (h2 := fun _ y => absurd hk y) (h3 := fun i hi ei _ => ?_)
  have ej : i = j := ((nI_eq (by omega) (by omega)).mp ei).symm
  subst ej
  exact hq _ _ _ h1 h2
theorem fk0 (hT : Tbl n I A L) {j : Nat} (hj : j < 6) : A 3 j = -1 ↔ A 30 (10 + j) = 0 := by
  rcases hT.2.2.2.2.1 j hj with ⟨z1, z2⟩ | ⟨z1, z2⟩
  · rw [z1, z2]; decide
  · rw [z1]; rcases z2 with z | z | z <;> rw [z] <;> decide
theorem q_unforce {j : Nat} {A1 : Nat → Nat → Int32} (hT : Tbl n I A L) (hW : Wsh I A) (h18 : A 18 = PLC) (hC : CaC (f_fb I A) (f_cost I A L) I L) (hj : j < 6) (e1 : A1 = va_up A 30 (upd (A 30) (10 + j) 0))
    (hn : A 30 (10 + j) = 0 → RelL I A1 L → Q (.inl (some (.int (-900002)))) (hp I A1 L O))
    (hq : ¬ A 30 (10 + j) = 0 → ∀ I' A' L', Tbl n I' A' L' → RelL I' A' L' → Q (.inl (some (.int (A' 4 j)))) (hp I' A' L' O)) : Call X 118 [.ref 1, .int (nI j)] (hp I A1 L O) Q := by
  obtain ⟨h1, h2⟩ := force_rel hT hW h18 hC hj FK_m1 e1 rfl
  have e3 : A1 3 = A 3 := by rw [e1]; rfl
  refine c_L_unforce (hn := hT.2.1) (hn40 := hT.1) (h1 := fun y => absurd (isCol_n hj) y) (h2 := fun i hi ei y => ?_) (h3 := fun i hi ei y => ?_)
  · have ej : i = j := ((nI_eq (by omega) (by omega)).mp ei).symm
    subst ej
    rw [e3, fk0 hT hj] at y
    refine hn y ?_
    rw [e1, up_same y]
    exact ⟨n, hT, hW, h18, hC⟩
  · have ej : i = j := ((nI_eq (by omega) (by omega)).mp ei).symm
    subst ej
    rw [e3, fk0 hT hj] at y
    exact hq y _ _ _ h1 h2
theorem q_wish {j : Nat} {z : Int32} {A1 : Nat → Nat → Int32} (hT : Tbl n I A L) (hW : Wsh I A) (h18 : A 18 = PLC) (hC : CaC fb co I L) (hj : j < 6) (hz : z = 0 ∨ z = 1) (e1 : A1 = va_up A 30 (upd (A 30) (30 + j) z))
    (hq : ∀ I', RelL I' A1 L → Q (.inl (some (.int (cntB (fun e => A1 30 (30 + e)) 6)))) (hp I' A1 L O)) : Call X 119 [.ref 1, .int (nI j), .int z] (hp I A1 L O) Q := by
  obtain ⟨h1, h2⟩ := wish_rel hT hW h18 hC hj hz e1
  refine c_L_wish (h1 := fun y => absurd (isCol_n hj) y) (h0 := fun _ => ?_)
  rw [h2]; exact hq _ h1
theorem mkF {x : Int32} (h : isMk x ∨ x = 45) : fits .char (.int x) = true := by
  rcases h with (rfl | rfl | rfl) | rfl
  · exact (pk_charN (q := 98) (by decide)).2
  · exact (pk_charN (q := 108) (by decide)).2
  · exact (pk_charN (q := 112) (by decide)).2
  · exact (pk_charN (q := 45) (by decide)).2
theorem q_wishMark {m : Int32} {A1 : Nat → Nat → Int32} (hT : Tbl n I A L) (hW : Wsh I A) (h18 : A 18 = PLC) (hC : CaC fb co I L) (hm : isMk m ∨ m = 45) (e1 : A1 = va_up A 30 (upd (A 30) 1 m))
    (hq : ∀ I', RelL I' A1 L → Q (.inl (some (.int (A 30 1)))) (hp I' A1 L O)) : Call X 120 [.ref 1, .int m] (hp I A1 L O) Q := by
  have h1 := mark_rel hT hW h18 hC hm e1
  have e : A 30 1 = I 4 := hW.2.2.1
  rw [e] at hq
  exact c_L_wishMark (hm := mk16 hm) (hf := mkF hm) (hn4 := mk16 hW.2.2.2.1) (h1 := fun y1 y2 => hm.elim (fun z => absurd z y1) (fun z => absurd z y2)) (h0 := fun _ => hq _ h1)
theorem q_setWeight {j : Nat} {w : Int32} {A1 : Nat → Nat → Int32} (hT : Tbl n I A L) (hW : Wsh I A) (h18 : A 18 = PLC) (hC : CaC fb co I L) (hj : j < 8) (hw : 0 ≤ w ∧ w ≤ 99) (e1 : A1 = va_up A 30 (upd (A 30) (20 + j) w))
    (hq : ∀ I' A', RelL I' A' L → Q (.inl (some (.int (A 30 (20 + j))))) (hp I' A' L O)) : Call X 123 [.ref 1, .int (nI j), .int w] (hp I A1 L O) Q := by
  have h1 := weight_rel hT hW h18 hC hj hw e1
  have e : A1 11 j = A 30 (20 + j) := by rw [e1]; exact (hW.2.2.2.2.2.2 j hj).1
  refine c_L_setWeight (h1 := fun y => absurd (rule_i hj) y) (h2 := fun _ y => absurd hw y) (h3 := fun i hi ei _ => ?_)
  have ej : i = j := ((nI_eq (by omega) (by omega)).mp ei).symm
  subst ej
  rw [e]; exact hq _ _ h1
theorem row_n {j : Nat} (hT : Tbl n I A L) (hj : j < n) : isRow I (nI j) := by
  have h40 := hT.1
  exact ⟨nI_pos' (by omega), by rw [hT.2.1]; exact nI_lt hj (by omega), nI_lt (show j < 40 by omega) (by decide)⟩
theorem q_put {j k : Nat} {v : Int32} {A1 : Nat → Nat → Int32} (hT : Tbl n I A L) (hW : Wsh I A) (h18 : A 18 = PLC) (hC : CaC fb co I L) (hj : j < n) (hk : k < 6) (hv : isVal v) (e1 : A1 = va_up A 30 (upd (A 30) (100 + (6 * j + k)) v))
    (hq : ∀ I' A' L', RelL I' A' L' → Q (.inl (some (.int (nv A k j)))) (hp I' A' L' O)) : Call X 111 [.ref 1, .int (nI j), .int (nI k), .int v] (hp I A1 L O) Q := by
  have h1 := put_rel hT hW h18 hC hj hk hv e1
  have h40 := hT.1
  have e : cv A1 k j = nv A k j := by rw [← (hT.2.2.2.1 k j hk hj).1, e1]; rfl
  refine c_L_put (hn := hT.2.1) (hn40 := hT.1) (h1 := fun y => absurd ⟨row_n hT hj, isCol_n hk⟩ y) (h2 := fun _ y => absurd hv y) (h3 := fun i i2 hi hi2 ei ei2 _ => ?_)
  have ej : i = j := ((nI_eq (by omega) (by omega)).mp ei).symm
  have ek : i2 = k := ((nI_eq (by omega) (by omega)).mp ei2).symm
  subst ej ek
  rw [e]; exact hq _ _ _ h1
theorem q_dropRow {m j : Nat} {N : Nat → Int32} {A1 : Nat → Nat → Int32} (hT : Tbl n I A L) (hW : Wsh I A) (h18 : A 18 = PLC) (hC : CaC fb co I L) (hj : j ≤ m) (en : n = m + 1) (e1 : A1 = va_up A 30 N) (h0 : N 0 = nI m) (hlt : ∀ x, 0 < x → x < 100 → N x = A 30 x)
    (hN : ∀ k r, k < 6 → r < m → N (100 + (6 * r + k)) = if j ≤ r then nv A k (r + 1) else nv A k r)
    (hq : ∀ I' A' L', RelL I' A' L' → A' 30 0 = nI m → I' 2 = nI m → Q (.inl (some (.int (nI m)))) (hp I' A' L' O)) : Call X 110 [.ref 1, .int (nI j)] (hp I A1 L O) Q := by
  have h40 := hT.1
  have hrel := drop_rel hT hW h18 hC hj en e1 h0 hlt hN
  have e0 : stA (remT A1 j (m - j) 6) m 6 30 0 = nI m := by
    rw [(stA_x _ _ 6).1 30 (by decide) (by decide) (by decide), (remT_x (A := A1) (r := j) (m := m - j) (by omega) 6).1 30 (by decide), e1]
    exact h0
  refine c_L_dropRow (hn := hT.2.1) (hn40 := hT.1) (h1 := fun y => absurd (row_n hT (show j < n by omega)) y) (h2 := fun i m' ei em hi => ?_)
  have ej : i = j := ((nI_eq (by omega) (by omega)).mp ei).symm
  have e2 : m' = m := by omega
  subst ej e2
  exact hq _ _ _ hrel e0 rfl
theorem gF_e (A : Nat → Nat → Int32) {i j : Nat} (hj : j < 4) : gF A (4 * i + j) = (A 30 (40 + i) >>> (nI j &&& 31)) &&& 1 := by
  unfold gF
  rw [show (4 * i + j) / 4 = i by omega, show (4 * i + j) % 4 = j by omega]
theorem chan_n {j : Nat} (h : j < 4) : isChan (nI j) := ⟨nI_pos' (by omega), nI_lt (b := 4) h (by decide)⟩
theorem q_forbid {i j G : Nat} {A1 : Nat → Nat → Int32} (hT : Tbl n I A L) (hW : Wsh I A) (h18 : A 18 = PLC) (hC : CaC (f_fb I A) (f_cost I A L) I L) (hi : i < 6) (hj : j < 4) (hG : G < 16) (hb : ∀ e, e < 4 → (nI G >>> (nI e &&& 31)) &&& 1 = if e = j then 1 else (A 30 (40 + i) >>> (nI e &&& 31)) &&& 1) (e1 : A1 = va_up A 30 (upd (A 30) (40 + i) (nI G)))
    (hn : gF A (4 * i + j) = 1 → RelL I A1 L → Q (.inl (some (.int (-900002)))) (hp I A1 L O)) (hq : gF A (4 * i + j) = 0 → ∀ I', RelL I' A1 L → Q (.inl (some (.int (cntB (gF A1) 24)))) (hp I' A1 L O)) : Call X 121 [.ref 1, .int (nI i), .int (nI j)] (hp I A1 L O) Q := by
  refine c_L_forbid (h1 := fun y => absurd ⟨isCol_n hi, chan_n hj⟩ y) (h2 := fun _ _ y => ?_) (h3 := fun _ _ y => ?_)
  · have g : gF A (4 * i + j) = 1 := (gF_01 A _).resolve_left ((forb_N hW hi hj).mp y)
    exact hn g (bit_same ⟨n, hT, hW, h18, hC⟩ hi hj g hG hb e1).1
  · have g : gF A (4 * i + j) = 0 := Classical.byContradiction (fun z => y ((forb_N hW hi hj).mpr z))
    obtain ⟨h1, h2⟩ := turn_rel hT hW h18 hC hi hj (Or.inl ⟨g, rfl⟩) hG hb e1
    rw [h2]; exact hq g _ h1
theorem q_allow {i j G : Nat} {A1 : Nat → Nat → Int32} (hT : Tbl n I A L) (hW : Wsh I A) (h18 : A 18 = PLC) (hC : CaC (f_fb I A) (f_cost I A L) I L) (hi : i < 6) (hj : j < 4) (hG : G < 16) (hb : ∀ e, e < 4 → (nI G >>> (nI e &&& 31)) &&& 1 = if e = j then 0 else (A 30 (40 + i) >>> (nI e &&& 31)) &&& 1) (e1 : A1 = va_up A 30 (upd (A 30) (40 + i) (nI G)))
    (hn : gF A (4 * i + j) = 0 → RelL I A1 L → Q (.inl (some (.int (-900002)))) (hp I A1 L O)) (hq : gF A (4 * i + j) = 1 → ∀ I', RelL I' A1 L → Q (.inl (some (.int (cntB (gF A1) 24)))) (hp I' A1 L O)) : Call X 122 [.ref 1, .int (nI i), .int (nI j)] (hp I A1 L O) Q := by
  refine c_L_allow (h1 := fun y => absurd ⟨isCol_n hi, chan_n hj⟩ y) (h2 := fun _ _ y => ?_) (h3 := fun _ _ y => ?_)
  · have g : gF A (4 * i + j) = 0 := Classical.byContradiction (fun z => y ((forb_N hW hi hj).mpr z))
    exact hn g (bit_same ⟨n, hT, hW, h18, hC⟩ hi hj g hG hb e1).1
  · have g : gF A (4 * i + j) = 1 := (gF_01 A _).resolve_left ((forb_N hW hi hj).mp y)
    obtain ⟨h1, h2⟩ := turn_rel hT hW h18 hC hi hj (Or.inr ⟨by rw [g]; decide, rfl⟩) hG hb e1
    rw [h2]; exact hq g _ h1
theorem cnt_s {g : Nat → Int32} {k : Nat} (h : g k = 0 ∨ g k = 1) : cntB g k + g k = cntB g (k + 1) := by
  rw [cntB]
  rcases h with h | h
  · rw [if_pos h, h]
  · rw [if_neg (by rw [h]; decide), h]
end CHG
