/-! what a change leaves -/
theorem stA_x (A : Nat → Nat → Int32) (n : Nat) : ∀ c, (∀ x, ¬ x = 4 → ¬ x = 5 → ¬ x = 6 → stA A n c x = A x) ∧ ∀ j, j < c → stA A n c 5 j = stCnt (cv A j) n ∧ stA A n c 6 j = stDif (cv A j) n ∧ stA A n c 4 j = g_kind (stCnt (cv A j) n) (stDif (cv A j) n) (A 3 j) (stRis (cv A j) n)
  | 0 => ⟨fun _ _ _ _ => rfl, fun j hj => absurd hj (Nat.not_lt_zero j)⟩
  | c + 1 => by
    obtain ⟨h1, h2⟩ := stA_x A n c
    rw [stA]
    generalize stA A n c = B at h1 h2
    have e2 : cv B = cv A := by funext c r; unfold cv; rw [h1 2 (by decide) (by decide) (by decide)]
    have e3 : B 3 = A 3 := h1 3 (by decide) (by decide) (by decide)
    refine ⟨fun x x4 x5 x6 => ?_, fun j hj => ?_⟩
    · unfold studyA
      show (if x = 4 then _ else if x = 6 then _ else if x = 5 then _ else B x) = A x
      rw [if_neg x4, if_neg x6, if_neg x5]; exact h1 x x4 x5 x6
    · unfold studyA
      rw [e2, e3]
      refine ⟨?_, ?_, ?_⟩
      · show upd (B 5) c _ j = _
        rw [upd_at]
        by_cases hz : j = c
        · rw [if_pos hz, hz]
        · rw [if_neg hz]; exact (h2 j (by omega)).1
      · show upd (B 6) c _ j = _
        rw [upd_at]
        by_cases hz : j = c
        · rw [if_pos hz, hz]
        · rw [if_neg hz]; exact (h2 j (by omega)).2.1
      · show upd (B 4) c _ j = _
        rw [upd_at]
        by_cases hz : j = c
        · rw [if_pos hz, hz]
        · rw [if_neg hz]; exact (h2 j (by omega)).2.2
theorem updL_at (f : Nat → Int64) (i : Nat) (x : Int64) (j : Nat) : vp_updL f i x j = if j = i then x else f j := rfl
theorem stL_x (A : Nat → Nat → Int32) (L : Nat → Nat → Int64) (n : Nat) : ∀ c, (∀ x, ¬ x = 7 → ¬ x = 8 → stL A L n c x = L x) ∧ ∀ j, j < c → stL A L n c 7 j = stSum (cv A j) n ∧ stL A L n c 8 j = stGap (cv A j) n
  | 0 => ⟨fun _ _ _ => rfl, fun j hj => absurd hj (Nat.not_lt_zero j)⟩
  | c + 1 => by
    obtain ⟨h1, h2⟩ := stL_x A L n c
    rw [stL]
    have e2 : cv (stA A n c) = cv A := by funext c' r; unfold cv; rw [(stA_x A n c).1 2 (by decide) (by decide) (by decide)]
    generalize stL A L n c = M at h1 h2
    refine ⟨fun x x7 x8 => ?_, fun j hj => ?_⟩
    · unfold studyL
      show (if x = 8 then _ else if x = 7 then _ else M x) = L x
      rw [if_neg x8, if_neg x7]; exact h1 x x7 x8
    · unfold studyL
      rw [e2]
      refine ⟨?_, ?_⟩
      · show vp_updL (M 7) c _ j = _
        rw [updL_at]
        by_cases hz : j = c
        · rw [if_pos hz, hz]
        · rw [if_neg hz]; exact (h2 j (by omega)).1
      · show vp_updL (M 8) c _ j = _
        rw [updL_at]
        by_cases hz : j = c
        · rw [if_pos hz, hz]
        · rw [if_neg hz]; exact (h2 j (by omega)).2
section TABLE
variable {n : Nat} {I I' : Nat → Int32} {A A' B : Nat → Nat → Int32} {L L' : Nat → Nat → Int64}
/-- all columns studied anew -/
theorem Tbl_st (h40 : n ≤ 40) (i2 : I' 2 = nI n) (i20 : A' 30 0 = nI n) (a2 : A' 2 = stA B n 6 2) (a3 : A' 3 = stA B n 6 3) (a4 : A' 4 = stA B n 6 4) (a5 : A' 5 = stA B n 6 5) (a6 : A' 6 = stA B n 6 6) (l7 : L' 7 = stL B L n 6 7) (l8 : L' 8 = stL B L n 6 8)
    (hcm : ∀ c r, c < 6 → r < n → cv B c r = nv A' c r ∧ isVal (nv A' c r)) (hf : ∀ c, c < 6 → FK (B 3 c) (A' 30 (10 + c))) : Tbl n I' A' L' := by
  obtain ⟨x1, x2⟩ := stA_x B n 6
  obtain ⟨y1, y2⟩ := stL_x B L n 6
  have e2 : cv A' = cv B := by funext c r; unfold cv; rw [a2, x1 2 (by decide) (by decide) (by decide)]
  have e3 : A' 3 = B 3 := by rw [a3, x1 3 (by decide) (by decide) (by decide)]
  refine ⟨h40, i2, i20, ?_, ?_, fun c hc => ?_⟩
  · rw [e2]; exact hcm
  · rw [e3]; exact hf
  · rw [e2, e3, a4, a5, a6, l7, l8]
    exact ⟨(x2 c hc).1, (x2 c hc).2.1, (y2 c hc).1, (y2 c hc).2, (x2 c hc).2.2⟩
/-- one column studied anew -/
theorem Tbl_one {k : Nat} (hT : Tbl n I A L) (i2 : I' 2 = I 2) (i20 : A' 30 0 = A 30 0) (a2 : A' 2 = B 2) (a3 : A' 3 = B 3) (a4 : A' 4 = studyA B k n 4) (a5 : A' 5 = studyA B k n 5) (a6 : A' 6 = studyA B k n 6) (l7 : L' 7 = studyL B L k n 7) (l8 : L' 8 = studyL B L k n 8)
    (b4 : B 4 = A 4) (b5 : B 5 = A 5) (b6 : B 6 = A 6) (hc : ∀ c r, c < 6 → ¬ c = k → r < n → cv B c r = cv A c r) (h3 : ∀ c, ¬ c = k → B 3 c = A 3 c)
    (hcm : ∀ c r, c < 6 → r < n → cv B c r = nv A' c r ∧ isVal (nv A' c r)) (hf : ∀ c, c < 6 → FK (B 3 c) (A' 30 (10 + c))) : Tbl n I' A' L' := by
  obtain ⟨t1, t2, t3, t4, t5, t6⟩ := hT
  have e2 : cv A' = cv B := by funext c r; unfold cv; rw [a2]
  refine ⟨t1, i2.trans t2, i20.trans t3, ?_, ?_, fun c hc6 => ?_⟩
  · rw [e2]; exact hcm
  · rw [a3]; exact hf
  · rw [e2, a3, a4, a5, a6, l7, l8]
    unfold studyA studyL
    show upd (B 5) k _ c = _ ∧ upd (B 6) k _ c = _ ∧ vp_updL (L 7) k _ c = _ ∧ vp_updL (L 8) k _ c = _ ∧ upd (B 4) k _ c = _
    rw [upd_at, upd_at, upd_at, updL_at, updL_at]
    by_cases hk : c = k
    · rw [if_pos hk, if_pos hk, if_pos hk, if_pos hk, if_pos hk, hk]
      exact ⟨rfl, rfl, rfl, rfl, rfl⟩
    · rw [if_neg hk, if_neg hk, if_neg hk, if_neg hk, if_neg hk, b4, b5, b6]
      obtain ⟨s1, s2, s3, s4, s5⟩ := t6 c hc6
      obtain ⟨g1, g2, g3, g4, g5, g6⟩ := st_cg (f := cv B c) (g := cv A c) (n := n) (fun r hr => hc c r hc6 hk hr)
      rw [g1, g2, g3, g4, g6, h3 c hk]
      exact ⟨s1, s2, s3, s4, s5⟩
theorem st1_at {k j : Nat} {v : Int32} (hj : j < 40) {c r : Nat} (hr : r < 40) : cv (st1 A k j v) c r = if c = k ∧ r = j then v else cv A c r := by
  show upd (A 2) (k * 40 + j) v (c * 40 + r) = _
  rw [upd_at]
  by_cases h : c = k ∧ r = j
  · rw [if_pos h, if_pos (by rw [h.1, h.2])]
  · rw [if_neg h, if_neg (by omega)]; rfl
end TABLE
theorem FK_m1 : FK (-1) 0 := Or.inl ⟨rfl, rfl⟩
def clr (N j : Nat) : Nat := if N.testBit j then N - 2 ^ j else N
theorem wish_t : ∀ N, N < 64 → ∀ j, j < 6 → g_wish (nI N) (nI j) 0 = nI (clr N j) ∧ g_wish (nI N) (nI j) 1 = nI (N ||| 2 ^ j) ∧ clr N j < 64 ∧ N ||| 2 ^ j < 64 ∧ ∀ e, e < 6 → (clr N j).testBit e = (N.testBit e && !(decide (e = j))) := by decide +kernel
theorem wish_N (g : Nat → Int32) {j : Nat} (hj : j < 6) {z : Int32} (hz : z = 0 ∨ z = 1) : g_wish (nI (bN g 6)) (nI j) z = nI (bN (upd g j z) 6) := by
  obtain ⟨h1, h2, h3, h4, h5⟩ := wish_t (bN g 6) (bN_lt g 6) j hj
  rcases hz with rfl | rfl
  · rw [h1, bN_u (g := upd g j 0) (m := 6) h3 (fun e he => ?_)]
    rw [h5 e he, Bool.and_eq_true, bN_b, upd_at]
    by_cases hej : e = j
    · rw [if_pos hej]; simp [hej]
    · rw [if_neg hej]; simp [hej, he]
  · rw [h2, bN_u (g := upd g j 1) (m := 6) h4 (fun e he => ?_)]
    rw [fb_bit_set, Bool.or_eq_true, bN_b, upd_at]
    by_cases hej : e = j
    · rw [if_pos hej]; simp [hej]
    · rw [if_neg hej]; simp [hej, he]
theorem one_24 {s : Nat} (h : s < 31) : (1 : Int32) <<< (nI s &&& 31) = nI (2 ^ s) := by
  have : ∀ s, s < 31 → (1 : Int32) <<< (nI s &&& 31) = nI (2 ^ s) := by decide +kernel
  exact this s h
theorem turn_N (g : Nat → Int32) {i j : Nat} (hi : i < 6) (hj : j < 4) {z : Int32} (hz : (g (4 * i + j) = 0 ∧ z = 1) ∨ (¬ g (4 * i + j) = 0 ∧ z = 0)) : g_turn (nI (bN g 24)) (nI i) (nI j) = nI (bN (upd g (4 * i + j) z) 24) := by
  unfold g_turn
  rw [show nI i * 4 + nI j = nI (4 * i + j) from by rw [show (4 : Int32) = nI 4 from rfl, pk_mul, nI_add, Nat.mul_comm], one_24 (by omega), fb_xorI]
  have hlt : bN g 24 ^^^ 2 ^ (4 * i + j) < 2 ^ 24 := Nat.xor_lt_two_pow (bN_lt g 24) (Nat.pow_lt_pow_right (by decide) (by omega))
  rw [bN_u (g := upd g (4 * i + j) z) (m := 24) hlt (fun e he => ?_)]
  have hb := bN_b g 24 e
  rw [fb_bit_flip, upd_at]
  by_cases hej : e = 4 * i + j
  · rw [if_pos hej]
    subst hej
    rcases hz with ⟨h0, rfl⟩ | ⟨h0, rfl⟩
    · have : (bN g 24).testBit (4 * i + j) = false := by
        cases hc : (bN g 24).testBit (4 * i + j) with
        | false => rfl
        | true => exact absurd h0 (hb.mp hc).2
      rw [this]; simp
    · rw [hb.mpr ⟨he, h0⟩]; simp
  · rw [if_neg hej, decide_eq_false hej, Bool.xor_false, hb]
    exact ⟨fun y => y.2, fun y => ⟨he, y⟩⟩
theorem mk16 {x : Int32} (h : isMk x ∨ x = 45) : narrow .char (.int x) = .int x := by
  rcases h with (rfl | rfl | rfl) | rfl
  · exact (pk_charN (q := 98) (by decide)).1
  · exact (pk_charN (q := 108) (by decide)).1
  · exact (pk_charN (q := 112) (by decide)).1
  · exact (pk_charN (q := 45) (by decide)).1
theorem rule_i {j : Nat} (h : j < 8) : isRule (nI j) := by
  refine ⟨nI_pos' (by omega), ?_⟩
  rw [show (8 : Int32) = nI 8 from rfl, nI_ltI (by omega) (by decide)]; exact h
def v6 (a b c d e f : Int32) (k : Nat) : Int32 := if k = 0 then a else if k = 1 then b else if k = 2 then c else if k = 3 then d else if k = 4 then e else f
section ROWS
variable {n : Nat} {A : Nat → Nat → Int32} {a b c d e f : Int32}
theorem ap_at (h40 : n < 40) {k r : Nat} (hk : k < 6) (hr : r < n + 1) : cv (apA A n a b c d e f) k r = if r = n then v6 a b c d e f k else cv A k r := by
  show upd (upd (upd (upd (upd (upd (A 2) (0 * 40 + n) a) (1 * 40 + n) b) (2 * 40 + n) c) (3 * 40 + n) d) (4 * 40 + n) e) (5 * 40 + n) f (k * 40 + r) = _
  rcases (show k = 0 ∨ k = 1 ∨ k = 2 ∨ k = 3 ∨ k = 4 ∨ k = 5 by omega) with rfl | rfl | rfl | rfl | rfl | rfl
  · by_cases h : r = n
    · subst h; rw [upd_at, if_neg (by omega), upd_at, if_neg (by omega), upd_at, if_neg (by omega), upd_at, if_neg (by omega), upd_at, if_neg (by omega), upd_at, if_pos rfl, if_pos rfl]; rfl
    · rw [upd_at, if_neg (by omega), upd_at, if_neg (by omega), upd_at, if_neg (by omega), upd_at, if_neg (by omega), upd_at, if_neg (by omega), upd_at, if_neg (by omega), if_neg h]; rfl
  · by_cases h : r = n
    · subst h; rw [upd_at, if_neg (by omega), upd_at, if_neg (by omega), upd_at, if_neg (by omega), upd_at, if_neg (by omega), upd_at, if_pos rfl, if_pos rfl]; rfl
    · rw [upd_at, if_neg (by omega), upd_at, if_neg (by omega), upd_at, if_neg (by omega), upd_at, if_neg (by omega), upd_at, if_neg (by omega), upd_at, if_neg (by omega), if_neg h]; rfl
  · by_cases h : r = n
    · subst h; rw [upd_at, if_neg (by omega), upd_at, if_neg (by omega), upd_at, if_neg (by omega), upd_at, if_pos rfl, if_pos rfl]; rfl
    · rw [upd_at, if_neg (by omega), upd_at, if_neg (by omega), upd_at, if_neg (by omega), upd_at, if_neg (by omega), upd_at, if_neg (by omega), upd_at, if_neg (by omega), if_neg h]; rfl
  · by_cases h : r = n
    · subst h; rw [upd_at, if_neg (by omega), upd_at, if_neg (by omega), upd_at, if_pos rfl, if_pos rfl]; rfl
    · rw [upd_at, if_neg (by omega), upd_at, if_neg (by omega), upd_at, if_neg (by omega), upd_at, if_neg (by omega), upd_at, if_neg (by omega), upd_at, if_neg (by omega), if_neg h]; rfl
  · by_cases h : r = n
    · subst h; rw [upd_at, if_neg (by omega), upd_at, if_pos rfl, if_pos rfl]; rfl
    · rw [upd_at, if_neg (by omega), upd_at, if_neg (by omega), upd_at, if_neg (by omega), upd_at, if_neg (by omega), upd_at, if_neg (by omega), upd_at, if_neg (by omega), if_neg h]; rfl
  · by_cases h : r = n
    · subst h; rw [upd_at, if_pos rfl, if_pos rfl]; rfl
    · rw [upd_at, if_neg (by omega), upd_at, if_neg (by omega), upd_at, if_neg (by omega), upd_at, if_neg (by omega), upd_at, if_neg (by omega), upd_at, if_neg (by omega), if_neg h]; rfl
theorem remC_x : ∀ (m : Nat) (B : Nat → Nat → Int32) (k r : Nat), r + m < 40 → (∀ x, ¬ x = 2 → remC B k r m x = B x) ∧ ∀ c y, y < 40 → cv (remC B k r m) c y = if c = k ∧ r ≤ y ∧ y < r + m then cv B c (y + 1) else cv B c y
  | 0, B, k, r, _ => ⟨fun _ _ => rfl, fun c y _ => by rw [if_neg (by omega)]; rfl⟩
  | m + 1, B, k, r, h => by
    obtain ⟨h1, h2⟩ := remC_x m (st1 B k r (cv B k (r + 1))) k (r + 1) (by omega)
    rw [remC]
    refine ⟨fun x hx => ?_, fun c y hy => ?_⟩
    · rw [h1 x hx]
      show (if x = 2 then _ else B x) = B x
      rw [if_neg hx]
    · rw [h2 c y hy]
      by_cases h3 : c = k ∧ r + 1 ≤ y ∧ y < r + 1 + m
      · rw [if_pos h3, if_pos (by omega), st1_at (by omega) (by omega), if_neg (by omega)]
      · rw [if_neg h3, st1_at (by omega) hy]
        by_cases h4 : c = k ∧ y = r
        · rw [if_pos h4, if_pos (by omega), h4.1, h4.2]
        · rw [if_neg h4, if_neg (by omega)]
theorem remT_x {r m : Nat} (h : r + m < 40) : ∀ k, (∀ x, ¬ x = 2 → remT A r m k x = A x) ∧ ∀ c y, y < 40 → cv (remT A r m k) c y = if c < k ∧ r ≤ y ∧ y < r + m then cv A c (y + 1) else cv A c y
  | 0 => ⟨fun _ _ => rfl, fun c y _ => by rw [if_neg (by omega)]; rfl⟩
  | k + 1 => by
    obtain ⟨h1, h2⟩ := remT_x h k
    rw [remT]
    generalize remT A r m k = B at h1 h2
    obtain ⟨h3, h4⟩ := remC_x m B k r h
    refine ⟨fun x hx => (h3 x hx).trans (h1 x hx), fun c y hy => ?_⟩
    rw [h4 c y hy]
    by_cases q : c = k ∧ r ≤ y ∧ y < r + m
    · rw [if_pos q, if_pos (by omega), h2 c (y + 1) (by omega), if_neg (by omega)]
    · rw [if_neg q, h2 c y hy]
      by_cases q2 : c < k ∧ r ≤ y ∧ y < r + m
      · rw [if_pos q2, if_pos (by omega)]
      · rw [if_neg q2, if_neg (by omega)]
def mDrp (f : Nat → Int32) : Nat → Nat → Nat → Int32
  | _, 0 => f
  | k, c + 1 => mDrp (upd f k (f (k + 6))) (k + 1) c
theorem mDrp_at : ∀ (m : Nat) (g : Nat → Int32) (k z : Nat), mDrp g k m z = if k ≤ z ∧ z < k + m then g (z + 6) else g z
  | 0, g, k, z => by rw [mDrp, if_neg (by omega)]
  | m + 1, g, k, z => by
    rw [mDrp, mDrp_at m]
    by_cases h : k + 1 ≤ z ∧ z < k + 1 + m
    · rw [if_pos h, if_pos (by omega), upd_at, if_neg (by omega)]
    · rw [if_neg h, upd_at]
      by_cases h2 : z = k
      · rw [if_pos h2, if_pos (by omega), h2]
      · rw [if_neg h2, if_neg (by omega)]
end ROWS
theorem bN_cg {g g' : Nat → Int32} : ∀ {m : Nat}, (∀ e, e < m → g e = g' e) → bN g m = bN g' m := by
  intro m h
  refine bN_u (bN_lt g m) (fun e he => ?_)
  rw [bN_b, h e he]
  exact ⟨fun z => z.2, fun z => ⟨he, z⟩⟩
theorem cntB_cg {g g' : Nat → Int32} : ∀ {m : Nat}, (∀ e, e < m → g e = g' e) → cntB g m = cntB g' m
  | 0, _ => rfl
  | m + 1, h => by rw [cntB, cntB, h m (Nat.lt_succ_self m), cntB_cg (fun e he => h e (by omega))]
section CHANGE
variable {n : Nat} {I I' : Nat → Int32} {A A' : Nat → Nat → Int32} {L L' : Nat → Nat → Int64} {fb co : Int32 → Int32}
theorem rel_new (hC : CaC fb co I L) (hT : Tbl n I' A' L') (hW : Wsh I' A') (h18 : A' 18 = PLC) (i6 : I' 6 = 1) (i7 : I' 7 = I 7) : RelL I' A' L' := by
  obtain ⟨k, k5, k7, -⟩ := hC
  exact ⟨n, hT, hW, h18, k, k5, i7.trans k7, fun z => absurd (i6.symm.trans z) (by decide)⟩
/-- what was asked for stands, where nothing of it is changed -/
theorem Wsh_c (i3 : I' 3 = I 3) (i4 : I' 4 = I 4) (i5 : I' 5 = I 5) (a11 : A' 11 = A 11) (h1 : A' 30 1 = A 30 1) (h20 : ∀ j, j < 8 → A' 30 (20 + j) = A 30 (20 + j)) (h30 : ∀ j, j < 6 → A' 30 (30 + j) = A 30 (30 + j)) (h40 : ∀ j, j < 6 → A' 30 (40 + j) = A 30 (40 + j)) (hW : Wsh I A) : Wsh I' A' := by
  obtain ⟨w1, w2, w3, w4, w5, w6, w7⟩ := hW
  refine ⟨?_, fun j hj => by rw [h30 j hj]; exact w2 j hj, by rw [h1, i4]; exact w3, by rw [i4]; exact w4, ?_, fun j hj => by rw [h40 j hj]; exact w6 j hj, fun j hj => by rw [a11, h20 j hj]; exact w7 j hj⟩
  · rw [i3, w1]; exact congrArg nI (bN_cg (fun e he => (h30 e he).symm))
  · rw [i5, w5]
    refine congrArg nI (bN_cg (fun e he => ?_))
    unfold gF
    rw [h40 (e / 4) (by omega)]
/-- the table stands -/
theorem Tbl_c (i2 : I' 2 = I 2) (a2 : A' 2 = A 2) (a3 : A' 3 = A 3) (a4 : A' 4 = A 4) (a5 : A' 5 = A 5) (a6 : A' 6 = A 6) (l7 : L' 7 = L 7) (l8 : L' 8 = L 8) (h0 : A' 30 0 = A 30 0) (h10 : ∀ c, c < 6 → A' 30 (10 + c) = A 30 (10 + c)) (hv : ∀ c r, c < 6 → r < n → nv A' c r = nv A c r) (hT : Tbl n I A L) : Tbl n I' A' L' := by
  obtain ⟨t1, t2, t3, t4, t5, t6⟩ := hT
  have e2 : cv A' = cv A := by funext c r; unfold cv; rw [a2]
  refine ⟨t1, i2.trans t2, h0.trans t3, fun c r hc hr => by rw [e2, hv c r hc hr]; exact t4 c r hc hr, fun c hc => by rw [a3, h10 c hc]; exact t5 c hc, fun c hc => ?_⟩
  rw [e2, a3, a4, a5, a6, l7, l8]; exact t6 c hc
theorem up30 {g : Nat → Int32} {x : Nat} : va_up A x g 30 = if 30 = x then g else A 30 := rfl
/-- a kind forced -/
theorem force_rel (hT : Tbl n I A L) (hW : Wsh I A) (h18 : A 18 = PLC) (hC : CaC fb co I L) {j : Nat} {k a : Int32} (hj : j < 6) (hk : FK k a) {A1 B : Nat → Nat → Int32} (e1 : A1 = va_up A 30 (upd (A 30) (10 + j) a)) (eB : B = va_up A1 3 (upd (A1 3) j k)) :
    Tbl n (va_up I 6 1) (studyA B j n) (studyL B L j n) ∧ RelL (va_up I 6 1) (studyA B j n) (studyL B L j n) := by
  subst eB e1
  have hT' : Tbl n (va_up I 6 1) (studyA (va_up (va_up A 30 (upd (A 30) (10 + j) a)) 3 (upd (A 3) j k)) j n) (studyL (va_up (va_up A 30 (upd (A 30) (10 + j) a)) 3 (upd (A 3) j k)) L j n) := by
    refine Tbl_one (k := j) (B := va_up (va_up A 30 (upd (A 30) (10 + j) a)) 3 (upd (A 3) j k)) (L := L) hT rfl (upd_n (by omega)) rfl rfl rfl rfl rfl rfl rfl rfl rfl rfl (fun _ _ _ _ _ => rfl) ?_ ?_ ?_
    · intro c hck
      show upd (A 3) j _ c = _
      rw [upd_at, if_neg hck]
    · intro c r hc hr
      have e : nv (studyA (va_up (va_up A 30 (upd (A 30) (10 + j) a)) 3 (upd (A 3) j k)) j n) c r = nv A c r := by
        show upd (A 30) (10 + j) a (100 + (6 * r + c)) = A 30 (100 + (6 * r + c))
        exact upd_n (by omega)
      rw [e]; exact hT.2.2.2.1 c r hc hr
    · intro c hc
      show FK (upd (A 3) j k c) (upd (A 30) (10 + j) a (10 + c))
      rw [upd_at, upd_at]
      by_cases hck : c = j
      · rw [if_pos hck, if_pos (by omega)]; exact hk
      · rw [if_neg hck, if_neg (by omega)]; exact hT.2.2.2.2.1 c hc
  exact ⟨hT', rel_new hC hT' (Wsh_c (I := I) (A := A) rfl rfl rfl rfl (upd_n (by omega)) (fun i hi => upd_n (by omega)) (fun i hi => upd_n (by omega)) (fun i hi => upd_n (by omega)) hW) h18 rfl rfl⟩
theorem up_same {i : Nat} {x : Int32} (h : A 30 i = x) : va_up A 30 (upd (A 30) i x) = A := by
  rw [fa_upd_same h]; exact va_self A 30
/-- a wish -/
theorem wish_rel (hT : Tbl n I A L) (hW : Wsh I A) (h18 : A 18 = PLC) (hC : CaC fb co I L) {j : Nat} {z : Int32} (hj : j < 6) (hz : z = 0 ∨ z = 1) {A1 : Nat → Nat → Int32} (e1 : A1 = va_up A 30 (upd (A 30) (30 + j) z)) :
    RelL (va_up (va_up I 6 1) 3 (g_wish (I 3) (nI j) z)) A1 L ∧ g_bc (g_wish (I 3) (nI j) z) = cntB (fun e => A1 30 (30 + e)) 6 := by
  subst e1
  obtain ⟨w1, w2, w3, w4, w5, w6, w7⟩ := hW
  have eg : g_wish (I 3) (nI j) z = nI (bN (fun e => upd (A 30) (30 + j) z (30 + e)) 6) := by
    rw [w1, wish_N _ hj hz]
    refine congrArg nI (bN_cg (fun e _ => ?_))
    rw [upd_at, upd_at]
    by_cases h : e = j
    · rw [if_pos h, if_pos (by omega)]
    · rw [if_neg h, if_neg (by omega)]
  refine ⟨rel_new hC (Tbl_c (I := I) (A := A) (L := L) rfl rfl rfl rfl rfl rfl rfl rfl (upd_n (by omega)) (fun c hc => upd_n (by omega)) (fun c r hc hr => upd_n (by omega)) hT) ⟨eg, fun e he => ?_, (upd_n (by omega)).trans w3, w4, ?_, fun e he => ?_, fun e he => ?_⟩ h18 rfl rfl, by rw [eg]; exact bc_cnt _ (by decide)⟩
  · show upd (A 30) (30 + j) z (30 + e) = 0 ∨ upd (A 30) (30 + j) z (30 + e) = 1
    rw [upd_at]; split
    · exact hz
    · exact w2 e he
  · show I 5 = _
    rw [w5]
    refine congrArg nI (bN_cg (fun e he => ?_))
    show _ = (upd (A 30) (30 + j) z (40 + e / 4) >>> (nI (e % 4) &&& 31)) &&& 1
    rw [upd_n (by omega)]; rfl
  · show ∃ F, F < 16 ∧ upd (A 30) (30 + j) z (40 + e) = nI F
    rw [upd_n (by omega)]; exact w6 e he
  · show A 11 e = upd (A 30) (30 + j) z (20 + e) ∧ 0 ≤ upd (A 30) (30 + j) z (20 + e) ∧ upd (A 30) (30 + j) z (20 + e) ≤ 99
    rw [upd_n (by omega)]; exact w7 e he
/-- a mark wished -/
theorem mark_rel (hT : Tbl n I A L) (hW : Wsh I A) (h18 : A 18 = PLC) (hC : CaC fb co I L) {m : Int32} (hm : isMk m ∨ m = 45) {A1 : Nat → Nat → Int32} (e1 : A1 = va_up A 30 (upd (A 30) 1 m)) : RelL (va_up (va_up I 6 1) 4 m) A1 L := by
  subst e1
  obtain ⟨w1, w2, w3, w4, w5, w6, w7⟩ := hW
  have g : ∀ x, ¬ x = 1 → upd (A 30) 1 m x = A 30 x := fun x hx => upd_n hx
  refine rel_new hC (Tbl_c (I := I) (A := A) (L := L) rfl rfl rfl rfl rfl rfl rfl rfl (show upd (A 30) 1 m 0 = A 30 0 from g 0 (by decide)) (fun c hc => g _ (by omega)) (fun c r hc hr => g _ (by omega)) hT) ⟨?_, fun e he => ?_, (show upd (A 30) 1 m 1 = m from upd_s _ _ _), hm, ?_, fun e he => ?_, fun e he => ?_⟩ h18 rfl rfl
  · show I 3 = _
    rw [w1]; exact congrArg nI (bN_cg (fun e he => (g _ (by omega)).symm))
  · show upd (A 30) 1 m (30 + e) = 0 ∨ upd (A 30) 1 m (30 + e) = 1
    rw [g _ (by omega)]; exact w2 e he
  · show I 5 = _
    rw [w5]
    refine congrArg nI (bN_cg (fun e he => ?_))
    show _ = (upd (A 30) 1 m (40 + e / 4) >>> (nI (e % 4) &&& 31)) &&& 1
    rw [g _ (by omega)]; rfl
  · show ∃ F, F < 16 ∧ upd (A 30) 1 m (40 + e) = nI F
    rw [g _ (by omega)]; exact w6 e he
  · show A 11 e = upd (A 30) 1 m (20 + e) ∧ 0 ≤ upd (A 30) 1 m (20 + e) ∧ upd (A 30) 1 m (20 + e) ≤ 99
    rw [g _ (by omega)]; exact w7 e he
/-- a weight set -/
theorem weight_rel (hT : Tbl n I A L) (hW : Wsh I A) (h18 : A 18 = PLC) (hC : CaC fb co I L) {j : Nat} {w : Int32} (hj : j < 8) (hw : 0 ≤ w ∧ w ≤ 99) {A1 : Nat → Nat → Int32} (e1 : A1 = va_up A 30 (upd (A 30) (20 + j) w)) : RelL (va_up I 6 1) (va_up A1 11 (upd (A1 11) j w)) L := by
  subst e1
  obtain ⟨w1, w2, w3, w4, w5, w6, w7⟩ := hW
  have g : ∀ x, ¬ x = 20 + j → upd (A 30) (20 + j) w x = A 30 x := fun x hx => upd_n hx
  refine rel_new hC (Tbl_c (I := I) (A := A) (L := L) rfl rfl rfl rfl rfl rfl rfl rfl (g _ (by omega)) (fun c hc => g _ (by omega)) (fun c r hc hr => g _ (by omega)) hT) ⟨?_, fun e he => ?_, (g _ (by omega)).trans w3, w4, ?_, fun e he => ?_, fun e he => ?_⟩ h18 rfl rfl
  · show I 3 = _
    rw [w1]; exact congrArg nI (bN_cg (fun e he => (g _ (by omega)).symm))
  · show upd (A 30) (20 + j) w (30 + e) = 0 ∨ upd (A 30) (20 + j) w (30 + e) = 1
    rw [g _ (by omega)]; exact w2 e he
  · show I 5 = _
    rw [w5]
    refine congrArg nI (bN_cg (fun e he => ?_))
    show _ = (upd (A 30) (20 + j) w (40 + e / 4) >>> (nI (e % 4) &&& 31)) &&& 1
    rw [g _ (by omega)]; rfl
  · show ∃ F, F < 16 ∧ upd (A 30) (20 + j) w (40 + e) = nI F
    rw [g _ (by omega)]; exact w6 e he
  · show upd (A 11) j w e = upd (A 30) (20 + j) w (20 + e) ∧ 0 ≤ upd (A 30) (20 + j) w (20 + e) ∧ upd (A 30) (20 + j) w (20 + e) ≤ 99
    rw [upd_at, upd_at]
    by_cases h : e = j
    · rw [if_pos h, if_pos (by omega)]; exact ⟨rfl, hw⟩
    · rw [if_neg h, if_neg (by omega)]; exact w7 e he
/-- a value put -/
theorem put_rel (hT : Tbl n I A L) (hW : Wsh I A) (h18 : A 18 = PLC) (hC : CaC fb co I L) {j k : Nat} {v : Int32} (hj : j < n) (hk : k < 6) (hv : isVal v) {A1 : Nat → Nat → Int32} (e1 : A1 = va_up A 30 (upd (A 30) (100 + (6 * j + k)) v)) : RelL (va_up I 6 1) (studyA (st1 A1 k j v) k n) (studyL (st1 A1 k j v) L k n) := by
  subst e1
  have h40 := hT.1
  have g : ∀ x, ¬ x = 100 + (6 * j + k) → upd (A 30) (100 + (6 * j + k)) v x = A 30 x := fun x hx => upd_n hx
  refine rel_new hC (Tbl_one (k := k) (B := st1 (va_up A 30 (upd (A 30) (100 + (6 * j + k)) v)) k j v) (L := L) hT rfl (g _ (by omega)) rfl rfl rfl rfl rfl rfl rfl rfl rfl rfl ?_ (fun _ _ => rfl) ?_ ?_) (Wsh_c (I := I) (A := A) rfl rfl rfl rfl (g _ (by omega)) (fun i hi => g _ (by omega)) (fun i hi => g _ (by omega)) (fun i hi => g _ (by omega)) hW) h18 rfl rfl
  · intro c r hc6 hck hr
    rw [st1_at (by omega) (by omega), if_neg (fun z => hck z.1)]; rfl
  · intro c r hc6 hr
    rw [st1_at (by omega) (by omega)]
    show _ = upd (A 30) (100 + (6 * j + k)) v (100 + (6 * r + c)) ∧ isVal (upd (A 30) (100 + (6 * j + k)) v (100 + (6 * r + c)))
    rw [upd_at]
    by_cases h : c = k ∧ r = j
    · rw [if_pos h, if_pos (by omega)]; exact ⟨rfl, hv⟩
    · rw [if_neg h, if_neg (by omega)]; exact hT.2.2.2.1 c r hc6 hr
  · intro c hc6
    show FK (A 3 c) (upd (A 30) (100 + (6 * j + k)) v (10 + c))
    rw [g _ (by omega)]; exact hT.2.2.2.2.1 c hc6
/-- a row added -/
theorem add_rel (hT : Tbl n I A L) (hW : Wsh I A) (h18 : A 18 = PLC) (hC : CaC fb co I L) {a b c d e f : Int32} (hn : n < 40) (hv : ∀ k, k < 6 → isVal (v6 a b c d e f k)) {A1 : Nat → Nat → Int32} {N : Nat → Int32} (e1 : A1 = va_up A 30 N) (h0 : N 0 = nI (n + 1)) (hlt : ∀ x, 0 < x → x < 100 → N x = A 30 x) (hN : ∀ k r, k < 6 → r < n + 1 → N (100 + (6 * r + k)) = if r = n then v6 a b c d e f k else nv A k r) :
    RelL (va_up (va_up I 2 (nI (n + 1))) 6 1) (stA (apA A1 n a b c d e f) (n + 1) 6) (stL (apA A1 n a b c d e f) L (n + 1) 6) := by
  subst e1
  have hx : ∀ x, ¬ x = 2 → ¬ x = 4 → ¬ x = 5 → ¬ x = 6 → stA (apA (va_up A 30 N) n a b c d e f) (n + 1) 6 x = va_up A 30 N x := by
    intro x x2 x4 x5 x6
    rw [(stA_x _ _ 6).1 x x4 x5 x6]
    unfold apA
    show (if x = 2 then _ else if x = 2 then _ else if x = 2 then _ else if x = 2 then _ else if x = 2 then _ else if x = 2 then _ else va_up A 30 N x) = va_up A 30 N x
    rw [if_neg x2, if_neg x2, if_neg x2, if_neg x2, if_neg x2, if_neg x2]
  have h30 : stA (apA (va_up A 30 N) n a b c d e f) (n + 1) 6 30 = N := hx 30 (by decide) (by decide) (by decide) (by decide)
  have e3 : apA (va_up A 30 N) n a b c d e f 3 = A 3 := rfl
  refine rel_new hC (Tbl_st (B := apA (va_up A 30 N) n a b c d e f) (L := L) (by omega) rfl (by rw [h30]; exact h0) rfl rfl rfl rfl rfl rfl rfl ?_ ?_) (Wsh_c (I := I) (A := A) rfl rfl rfl (hx 11 (by decide) (by decide) (by decide) (by decide)) (by rw [h30]; exact hlt _ (by omega) (by omega)) (fun i hi => by rw [h30]; exact hlt _ (by omega) (by omega)) (fun i hi => by rw [h30]; exact hlt _ (by omega) (by omega)) (fun i hi => by rw [h30]; exact hlt _ (by omega) (by omega)) hW) ((hx 18 (by decide) (by decide) (by decide) (by decide)).trans h18) rfl rfl
  · intro k r hk hr
    have en : nv (stA (apA (va_up A 30 N) n a b c d e f) (n + 1) 6) k r = N (100 + (6 * r + k)) := by unfold nv; rw [h30]
    rw [en, hN k r hk hr, ap_at hn hk hr]
    by_cases q : r = n
    · rw [if_pos q, if_pos q]; exact ⟨rfl, hv k hk⟩
    · rw [if_neg q, if_neg q]; exact hT.2.2.2.1 k r hk (by omega)
  · intro k hk
    rw [h30, e3, hlt _ (by omega) (by omega)]; exact hT.2.2.2.2.1 k hk
/-- a row dropped -/
theorem drop_rel {m j : Nat} (hT : Tbl n I A L) (hW : Wsh I A) (h18 : A 18 = PLC) (hC : CaC fb co I L) (hj : j ≤ m) (en : n = m + 1) {A1 : Nat → Nat → Int32} {N : Nat → Int32} (e1 : A1 = va_up A 30 N) (h0 : N 0 = nI m) (hlt : ∀ x, 0 < x → x < 100 → N x = A 30 x) (hN : ∀ k r, k < 6 → r < m → N (100 + (6 * r + k)) = if j ≤ r then nv A k (r + 1) else nv A k r) :
    RelL (va_up (va_up I 2 (nI m)) 6 1) (stA (remT A1 j (m - j) 6) m 6) (stL (remT A1 j (m - j) 6) L m 6) := by
  subst e1
  have h40 := hT.1
  obtain ⟨r1, r2⟩ := remT_x (A := va_up A 30 N) (r := j) (m := m - j) (by omega) 6
  have hx : ∀ x, ¬ x = 2 → ¬ x = 4 → ¬ x = 5 → ¬ x = 6 → stA (remT (va_up A 30 N) j (m - j) 6) m 6 x = va_up A 30 N x := by
    intro x x2 x4 x5 x6
    rw [(stA_x _ _ 6).1 x x4 x5 x6, r1 x x2]
  have h30 : stA (remT (va_up A 30 N) j (m - j) 6) m 6 30 = N := hx 30 (by decide) (by decide) (by decide) (by decide)
  refine rel_new hC (Tbl_st (B := remT (va_up A 30 N) j (m - j) 6) (L := L) (by omega) rfl (by rw [h30]; exact h0) rfl rfl rfl rfl rfl rfl rfl ?_ ?_) (Wsh_c (I := I) (A := A) rfl rfl rfl (hx 11 (by decide) (by decide) (by decide) (by decide)) (by rw [h30]; exact hlt _ (by omega) (by omega)) (fun i hi => by rw [h30]; exact hlt _ (by omega) (by omega)) (fun i hi => by rw [h30]; exact hlt _ (by omega) (by omega)) (fun i hi => by rw [h30]; exact hlt _ (by omega) (by omega)) hW) ((hx 18 (by decide) (by decide) (by decide) (by decide)).trans h18) rfl rfl
  · intro k r hk hr
    have e : nv (stA (remT (va_up A 30 N) j (m - j) 6) m 6) k r = N (100 + (6 * r + k)) := by unfold nv; rw [h30]
    rw [e, hN k r hk hr, r2 k r (by omega)]
    by_cases q : j ≤ r
    · rw [if_pos q, if_pos ⟨hk, q, by omega⟩]; exact hT.2.2.2.1 k (r + 1) hk (by omega)
    · rw [if_neg q, if_neg (fun z => q z.2.1)]; exact hT.2.2.2.1 k r hk (by omega)
  · intro k hk
    rw [h30, r1 3 (by decide), hlt _ (by omega) (by omega)]
    exact hT.2.2.2.2.1 k hk
/-- is a column forbidden -/
theorem forb_N (hW : Wsh I A) {i j : Nat} (hi : i < 6) (hj : j < 4) : f_forb I (nI i) (nI j) ↔ ¬ gF A (4 * i + j) = 0 := by
  unfold f_forb
  rw [show nI i * 4 + nI j = nI (4 * i + j) from by rw [show (4 : Int32) = nI 4 from rfl, pk_mul, nI_add, Nat.mul_comm], hW.2.2.2.2.1, bit_N (Nat.lt_trans (bN_lt _ 24) (by decide)) (by omega), bN_b]
  have hn : ¬ nI i = -1 := by
    intro z
    have h2 : ¬ nI i < 0 := nI_pos (by omega)
    rw [z] at h2; exact h2 (by decide)
  constructor
  · rintro ⟨-, h⟩ z; exact h (fun y => y.2 z)
  · intro h; exact ⟨hn, fun z => z ⟨by omega, h⟩⟩
/-- the four bits of a column -/
theorem bit_t : ∀ F, F < 16 → ∀ j, j < 4 → (∃ G, G < 16 ∧ nI F ||| ((1 : Int32) <<< (nI j &&& 31)) = nI G ∧ ∀ i, i < 4 → (nI G >>> (nI i &&& 31)) &&& 1 = if i = j then 1 else (nI F >>> (nI i &&& 31)) &&& 1) ∧
    (∃ G, G < 16 ∧ nI F &&& (((1 : Int32) <<< (nI j &&& 31)) ^^^ (-1)) = nI G ∧ ∀ i, i < 4 → (nI G >>> (nI i &&& 31)) &&& 1 = if i = j then 0 else (nI F >>> (nI i &&& 31)) &&& 1) := by
  intro F hF j hj
  have h1 : ∀ F, F < 16 → ∀ j, j < 4 → nI F ||| ((1 : Int32) <<< (nI j &&& 31)) = nI (F ||| 2 ^ j) ∧ F ||| 2 ^ j < 16 ∧ ∀ i, i < 4 → (nI (F ||| 2 ^ j) >>> (nI i &&& 31)) &&& 1 = if i = j then 1 else (nI F >>> (nI i &&& 31)) &&& 1 := by decide +kernel
  have h2 : ∀ F, F < 16 → ∀ j, j < 4 → nI F &&& (((1 : Int32) <<< (nI j &&& 31)) ^^^ (-1)) = nI (clr F j) ∧ clr F j < 16 ∧ ∀ i, i < 4 → (nI (clr F j) >>> (nI i &&& 31)) &&& 1 = if i = j then 0 else (nI F >>> (nI i &&& 31)) &&& 1 := by decide +kernel
  obtain ⟨a1, a2, a3⟩ := h1 F hF j hj
  obtain ⟨b1, b2, b3⟩ := h2 F hF j hj
  exact ⟨⟨_, a2, a1, a3⟩, ⟨_, b2, b1, b3⟩⟩
/-- a bit changed -/
theorem bit_rel (hT : Tbl n I A L) (hW : Wsh I A) {i j G : Nat} {z : Int32} (hi : i < 6) (hj : j < 4) (hz : z = 0 ∨ z = 1) (hG : G < 16) (hb : ∀ e, e < 4 → (nI G >>> (nI e &&& 31)) &&& 1 = if e = j then z else (A 30 (40 + i) >>> (nI e &&& 31)) &&& 1) {A1 : Nat → Nat → Int32} (e1 : A1 = va_up A 30 (upd (A 30) (40 + i) (nI G))) :
    Tbl n I A1 L ∧ ∀ e, e < 24 → gF A1 e = upd (gF A) (4 * i + j) z e := by
  subst e1
  have g : ∀ x, ¬ x = 40 + i → upd (A 30) (40 + i) (nI G) x = A 30 x := fun x hx => upd_n hx
  refine ⟨Tbl_c (I := I) (A := A) (L := L) rfl rfl rfl rfl rfl rfl rfl rfl (g _ (by omega)) (fun c hc => g _ (by omega)) (fun c r hc hr => g _ (by omega)) hT, fun e he => ?_⟩
  show (upd (A 30) (40 + i) (nI G) (40 + e / 4) >>> (nI (e % 4) &&& 31)) &&& 1 = _
  rw [upd_at, upd_at]
  by_cases h : e / 4 = i
  · rw [if_pos (by omega), hb (e % 4) (by omega)]
    by_cases h2 : e % 4 = j
    · rw [if_pos h2, if_pos (by omega)]
    · rw [if_neg h2, if_neg (by omega)]; unfold gF; rw [h]
  · rw [if_neg (by omega), if_neg (by omega)]; rfl
theorem gF_01 (A : Nat → Nat → Int32) (e : Nat) : gF A e = 0 ∨ gF A e = 1 := and1_01 _
/-- a pair forbidden, or allowed -/
theorem turn_rel (hT : Tbl n I A L) (hW : Wsh I A) (h18 : A 18 = PLC) (hC : CaC fb co I L) {i j G : Nat} {z : Int32} (hi : i < 6) (hj : j < 4) (hz : (gF A (4 * i + j) = 0 ∧ z = 1) ∨ (¬ gF A (4 * i + j) = 0 ∧ z = 0)) (hG : G < 16) (hb : ∀ e, e < 4 → (nI G >>> (nI e &&& 31)) &&& 1 = if e = j then z else (A 30 (40 + i) >>> (nI e &&& 31)) &&& 1) {A1 : Nat → Nat → Int32} (e1 : A1 = va_up A 30 (upd (A 30) (40 + i) (nI G))) :
    RelL (va_up (va_up I 6 1) 5 (g_turn (I 5) (nI i) (nI j))) A1 L ∧ g_bc (g_turn (I 5) (nI i) (nI j)) = cntB (gF A1) 24 := by
  have hz2 : z = 0 ∨ z = 1 := by rcases hz with ⟨-, y⟩ | ⟨-, y⟩ <;> simp [y]
  obtain ⟨hT1, hg⟩ := bit_rel hT hW hi hj hz2 hG hb e1
  have et : g_turn (I 5) (nI i) (nI j) = nI (bN (gF A1) 24) := by
    rw [hW.2.2.2.2.1, turn_N (gF A) hi hj hz]
    exact congrArg nI (bN_cg (fun e he => (hg e he).symm))
  refine ⟨?_, by rw [et]; exact bc_cnt _ (by decide)⟩
  subst e1
  have g : ∀ x, ¬ x = 40 + i → upd (A 30) (40 + i) (nI G) x = A 30 x := fun x hx => upd_n hx
  obtain ⟨w1, w2, w3, w4, w5, w6, w7⟩ := hW
  refine rel_new hC (Tbl_c (I := I) (L := L) rfl rfl rfl rfl rfl rfl rfl rfl rfl (fun _ _ => rfl) (fun _ _ _ _ => rfl) hT1) ⟨?_, fun e he => ?_, (g _ (by omega)).trans w3, w4, et, fun e he => ?_, fun e he => ?_⟩ h18 rfl rfl
  · show I 3 = _
    rw [w1]; exact congrArg nI (bN_cg (fun e he => (g _ (by omega)).symm))
  · show upd (A 30) (40 + i) (nI G) (30 + e) = 0 ∨ upd (A 30) (40 + i) (nI G) (30 + e) = 1
    rw [g _ (by omega)]; exact w2 e he
  · show ∃ F, F < 16 ∧ upd (A 30) (40 + i) (nI G) (40 + e) = nI F
    rw [upd_at]; split
    · exact ⟨G, hG, rfl⟩
    · exact w6 e he
  · show A 11 e = upd (A 30) (40 + i) (nI G) (20 + e) ∧ 0 ≤ upd (A 30) (40 + i) (nI G) (20 + e) ∧ upd (A 30) (40 + i) (nI G) (20 + e) ≤ 99
    rw [g _ (by omega)]; exact w7 e he
/-- a pair as it was -/
theorem bit_same (hr : RelL I A L) {i j G : Nat} {z : Int32} (hi : i < 6) (hj : j < 4) (hz : gF A (4 * i + j) = z) (hG : G < 16) (hb : ∀ e, e < 4 → (nI G >>> (nI e &&& 31)) &&& 1 = if e = j then z else (A 30 (40 + i) >>> (nI e &&& 31)) &&& 1) {A1 : Nat → Nat → Int32} (e1 : A1 = va_up A 30 (upd (A 30) (40 + i) (nI G))) :
    RelL I A1 L ∧ ∀ e, e < 24 → gF A1 e = gF A e := by
  obtain ⟨n, hT, hW, h18, hC⟩ := hr
  have hz2 : z = 0 ∨ z = 1 := by rw [← hz]; exact gF_01 A _
  obtain ⟨hT1, hg⟩ := bit_rel hT hW hi hj hz2 hG hb e1
  have hg2 : ∀ e, e < 24 → gF A1 e = gF A e := by
    intro e he
    rw [hg e he, upd_at]; split
    · rename_i h; rw [h]; exact hz.symm
    · rfl
  refine ⟨?_, hg2⟩
  subst e1
  have g : ∀ x, ¬ x = 40 + i → upd (A 30) (40 + i) (nI G) x = A 30 x := fun x hx => upd_n hx
  obtain ⟨w1, w2, w3, w4, w5, w6, w7⟩ := hW
  refine ⟨n, hT1, ⟨?_, fun e he => ?_, (g _ (by omega)).trans w3, w4, ?_, fun e he => ?_, fun e he => ?_⟩, h18, hC⟩
  · rw [w1]; exact congrArg nI (bN_cg (fun e he => (g _ (by omega)).symm))
  · show upd (A 30) (40 + i) (nI G) (30 + e) = 0 ∨ upd (A 30) (40 + i) (nI G) (30 + e) = 1
    rw [g _ (by omega)]; exact w2 e he
  · rw [w5]; exact congrArg nI (bN_cg (fun e he => (hg2 e he).symm))
  · show ∃ F, F < 16 ∧ upd (A 30) (40 + i) (nI G) (40 + e) = nI F
    rw [upd_at]; split
    · exact ⟨G, hG, rfl⟩
    · exact w6 e he
  · show A 11 e = upd (A 30) (40 + i) (nI G) (20 + e) ∧ 0 ≤ upd (A 30) (40 + i) (nI G) (20 + e) ∧ upd (A 30) (40 + i) (nI G) (20 + e) ≤ 99
    rw [g _ (by omega)]; exact w7 e he
end CHANGE
