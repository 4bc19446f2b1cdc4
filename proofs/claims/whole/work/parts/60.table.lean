/-! the table's calls -/
theorem stA_x (A : Nat → Nat → Int32) (n : Nat) : ∀ c, (∀ x, ¬ x = 4 → ¬ x = 5 → ¬ x = 6 → stA A n c x = A x) ∧ ∀ j, j < c → stA A n c 5 j = stCnt (cv A j) n ∧ stA A n c 6 j = stDif (cv A j) n ∧ stA A n c 4 j = g_kind (stCnt (cv A j) n) (stDif (cv A j) n) (A 3 j) (stRis (cv A j) n)
  | 0 => ⟨fun _ _ _ _ => rfl, fun j hj => absurd hj (Nat.not_lt_zero j)⟩
  | c + 1 => by
    obtain ⟨h1, h2⟩ := stA_x A n c
    rw [stA]
    generalize stA A n c = B at h1 h2
    have e2 : cv B = cv A := by funext c r; unfold cv; rw [h1 2 (by decide) (by decide) (by decide)]
    have e3 : B 3 = A 3 := h1 3 (by decide) (by decide) (by decide)
    refine ⟨fun x x4 x5 x6 => ?_, fun j hj => ?_⟩
    · unfold studyA
      show (if x = 4 then _ else if x = 6 then _ else if x = 5 then _ else B x) = A x
      rw [if_neg x4, if_neg x6, if_neg x5]; exact h1 x x4 x5 x6
    · unfold studyA
      rw [e2, e3]
      refine ⟨?_, ?_, ?_⟩
      · show upd (B 5) c _ j = _
        rw [upd_at]
        by_cases hz : j = c
        · rw [if_pos hz, hz]
        · rw [if_neg hz]; exact (h2 j (by omega)).1
      · show upd (B 6) c _ j = _
        rw [upd_at]
        by_cases hz : j = c
        · rw [if_pos hz, hz]
        · rw [if_neg hz]; exact (h2 j (by omega)).2.1
      · show upd (B 4) c _ j = _
        rw [upd_at]
        by_cases hz : j = c
        · rw [if_pos hz, hz]
        · rw [if_neg hz]; exact (h2 j (by omega)).2.2
theorem updL_at (f : Nat → Int64) (i : Nat) (x : Int64) (j : Nat) : vp_updL f i x j = if j = i then x else f j := rfl
theorem stL_x (A : Nat → Nat → Int32) (L : Nat → Nat → Int64) (n : Nat) : ∀ c, (∀ x, ¬ x = 7 → ¬ x = 8 → stL A L n c x = L x) ∧ ∀ j, j < c → stL A L n c 7 j = stSum (cv A j) n ∧ stL A L n c 8 j = stGap (cv A j) n
  | 0 => ⟨fun _ _ _ => rfl, fun j hj => absurd hj (Nat.not_lt_zero j)⟩
  | c + 1 => by
    obtain ⟨h1, h2⟩ := stL_x A L n c
    rw [stL]
    have e2 : cv (stA A n c) = cv A := by funext c' r; unfold cv; rw [(stA_x A n c).1 2 (by decide) (by decide) (by decide)]
    generalize stL A L n c = M at h1 h2
    refine ⟨fun x x7 x8 => ?_, fun j hj => ?_⟩
    · unfold studyL
      show (if x = 8 then _ else if x = 7 then _ else M x) = L x
      rw [if_neg x8, if_neg x7]; exact h1 x x7 x8
    · unfold studyL
      rw [e2]
      refine ⟨?_, ?_⟩
      · show vp_updL (M 7) c _ j = _
        rw [updL_at]
        by_cases hz : j = c
        · rw [if_pos hz, hz]
        · rw [if_neg hz]; exact (h2 j (by omega)).1
      · show vp_updL (M 8) c _ j = _
        rw [updL_at]
        by_cases hz : j = c
        · rw [if_pos hz, hz]
        · rw [if_neg hz]; exact (h2 j (by omega)).2
section TABLE
variable {n : Nat} {I I' : Nat → Int32} {A A' B : Nat → Nat → Int32} {L L' : Nat → Nat → Int64}
/-- all columns studied anew -/
theorem Tbl_st (h40 : n ≤ 40) (i2 : I' 2 = nI n) (i20 : I' 20 = nI n) (a2 : A' 2 = stA B n 6 2) (a3 : A' 3 = stA B n 6 3) (a4 : A' 4 = stA B n 6 4) (a5 : A' 5 = stA B n 6 5) (a6 : A' 6 = stA B n 6 6) (l7 : L' 7 = stL B L n 6 7) (l8 : L' 8 = stL B L n 6 8)
    (hcm : ∀ c r, c < 6 → r < n → cv B c r = mv A' c r) (hf : ∀ c, c < 6 → FK (B 3 c) (A' 23 c)) : Tbl n I' A' L' := by
  obtain ⟨x1, x2⟩ := stA_x B n 6
  obtain ⟨y1, y2⟩ := stL_x B L n 6
  have e2 : cv A' = cv B := by funext c r; unfold cv; rw [a2, x1 2 (by decide) (by decide) (by decide)]
  have e3 : A' 3 = B 3 := by rw [a3, x1 3 (by decide) (by decide) (by decide)]
  refine ⟨h40, i2, i20, ?_, ?_, fun c hc => ?_⟩
  · rw [e2]; exact hcm
  · rw [e3]; exact hf
  · rw [e2, e3, a4, a5, a6, l7, l8]
    exact ⟨(x2 c hc).1, (x2 c hc).2.1, (y2 c hc).1, (y2 c hc).2, (x2 c hc).2.2⟩
/-- one column studied anew -/
theorem Tbl_one {k : Nat} (hT : Tbl n I A L) (i2 : I' 2 = I 2) (i20 : I' 20 = I 20) (a2 : A' 2 = B 2) (a3 : A' 3 = B 3) (a4 : A' 4 = studyA B k n 4) (a5 : A' 5 = studyA B k n 5) (a6 : A' 6 = studyA B k n 6) (l7 : L' 7 = studyL B L k n 7) (l8 : L' 8 = studyL B L k n 8)
    (b4 : B 4 = A 4) (b5 : B 5 = A 5) (b6 : B 6 = A 6) (hc : ∀ c r, c < 6 → ¬ c = k → r < n → cv B c r = cv A c r) (h3 : ∀ c, ¬ c = k → B 3 c = A 3 c)
    (hcm : ∀ c r, c < 6 → r < n → cv B c r = mv A' c r) (hf : ∀ c, c < 6 → FK (B 3 c) (A' 23 c)) : Tbl n I' A' L' := by
  obtain ⟨t1, t2, t3, t4, t5, t6⟩ := hT
  have e2 : cv A' = cv B := by funext c r; unfold cv; rw [a2]
  refine ⟨t1, i2.trans t2, i20.trans t3, ?_, ?_, fun c hc6 => ?_⟩
  · rw [e2]; exact hcm
  · rw [a3]; exact hf
  · rw [e2, a3, a4, a5, a6, l7, l8]
    unfold studyA studyL
    show upd (B 5) k _ c = _ ∧ upd (B 6) k _ c = _ ∧ vp_updL (L 7) k _ c = _ ∧ vp_updL (L 8) k _ c = _ ∧ upd (B 4) k _ c = _
    rw [upd_at, upd_at, upd_at, updL_at, updL_at]
    by_cases hk : c = k
    · rw [if_pos hk, if_pos hk, if_pos hk, if_pos hk, if_pos hk, hk]
      exact ⟨rfl, rfl, rfl, rfl, rfl⟩
    · rw [if_neg hk, if_neg hk, if_neg hk, if_neg hk, if_neg hk, b4, b5, b6]
      obtain ⟨s1, s2, s3, s4, s5⟩ := t6 c hc6
      obtain ⟨g1, g2, g3, g4, g5, g6⟩ := st_cg (f := cv B c) (g := cv A c) (n := n) (fun r hr => hc c r hc6 hk hr)
      rw [g1, g2, g3, g4, g6, h3 c hk]
      exact ⟨s1, s2, s3, s4, s5⟩
theorem row_e (h40 : n ≤ 40) (i2 : I 2 = nI n) (x : Int32) : isRow I x ↔ inRow n x := by
  unfold isRow inRow
  rw [i2]
  constructor
  · rintro ⟨h1, h2, -⟩; exact ⟨h1, h2⟩
  · rintro ⟨h1, h2⟩
    refine ⟨h1, h2, ?_⟩
    obtain ⟨j, hj, e⟩ := nI_of (i_nlt.mpr h1)
    rw [e, nI_ltI hj (by omega)] at h2
    rw [e, show (40 : Int32) = nI 40 from rfl, nI_ltI hj (by decide)]; omega
theorem inRow_n {j : Nat} (h40 : n ≤ 40) (h : j < n) : inRow n (nI j) := ⟨nI_pos' (by omega), nI_lt h (by omega)⟩
/-- a value put: both tables -/
theorem st1_at {k j : Nat} {v : Int32} (hj : j < 40) {c r : Nat} (hr : r < 40) : cv (st1 A k j v) c r = if c = k ∧ r = j then v else cv A c r := by
  show upd (A 2) (k * 40 + j) v (c * 40 + r) = _
  rw [upd_at]
  by_cases h : c = k ∧ r = j
  · rw [if_pos h, if_pos (by rw [h.1, h.2])]
  · rw [if_neg h, if_neg (by omega)]; rfl
theorem put_at {k j : Nat} {v : Int32} {f : Nat → Int32} (hk : k < 6) {c r : Nat} (hc : c < 6) : upd f (6 * j + k) v (6 * r + c) = if c = k ∧ r = j then v else f (6 * r + c) := by
  rw [upd_at]
  by_cases h : c = k ∧ r = j
  · rw [if_pos h, if_pos (by rw [h.1, h.2])]
  · rw [if_neg h, if_neg (by omega)]
end TABLE
theorem FK_m1 : FK (-1) 0 := Or.inl ⟨rfl, rfl⟩
theorem st_put {X : XS} : LStep X Rel 386 := by
  intro Q I A L O ii bC bS hX hi hr zc
  obtain ⟨n, hT, hW, hR, hC, hM⟩ := id hr
  have re := row_e hT.1 hT.2.1 (X.2 (ii + 1))
  refine opA_put hX hi hT.2.1 hT.1 (fun hc => ?_) (fun k1 hc => ?_) (fun j k hj hk ej ek hc => ?_)
  · exact opB_put hX hi hT.2.2.1 hT.1 (fun _ => ⟨rfl, zc _ _ _ _ (rel_26 hr _)⟩) (fun h => absurd ⟨re.mpr h.1, h.2⟩ hc) (fun j k hj hk ej ek => absurd ⟨re.mpr (by rw [ej]; exact inRow_n hT.1 hj), by rw [ek]; exact isCol_n hk⟩ hc)
  · exact opB_put hX hi hT.2.2.1 hT.1 (fun h => absurd ⟨re.mp k1.1, k1.2⟩ h) (fun _ _ => ⟨rfl, zc _ _ _ _ (rel_26 hr _)⟩) (fun _ _ _ _ _ _ h => absurd h hc)
  · have k1 : inRow n (X.2 (ii + 1)) ∧ isCol (X.2 (ii + 2)) := ⟨by rw [ej]; exact inRow_n hT.1 hj, by rw [ek]; exact isCol_n hk⟩
    refine opB_put hX hi hT.2.2.1 hT.1 (fun h => absurd k1 h) (fun _ h => absurd hc h) (fun j' k' hj' hk' ej' ek' _ => ?_)
    have h40 := hT.1
    have q1 : j' = j := by rw [ej, nI_eq (by omega) (by omega)] at ej'; exact ej'.symm
    have q2 : k' = k := by rw [ek, nI_eq (by omega) (by omega)] at ek'; exact ek'.symm
    subst q1 q2
    refine ⟨rfl, ?_, zc _ _ _ _ ?_⟩
    · show (cv A k' j').toInt64 = (mv A k' j').toInt64
      rw [hT.2.2.2.1 k' j' hk hj]
    · refine rel_st hC rfl rfl rfl (Tbl_one (k := k') (B := st1 A k' j' (X.2 (ii + 3))) (L := L) hT rfl rfl rfl rfl rfl rfl rfl rfl rfl rfl rfl rfl ?_ (fun _ _ => rfl) ?_ hT.2.2.2.2.1) (Wsh_c rfl rfl rfl rfl rfl rfl rfl rfl rfl rfl hW) (Rst_c rfl rfl rfl rfl rfl rfl rfl rfl rfl rfl hR)
      · intro c r hc6 hck hr'
        rw [st1_at (by omega) (by omega), if_neg (fun z => hck z.1)]
      · intro c r hc6 hr'
        rw [st1_at (by omega) (by omega)]
        show _ = upd (A 22) (6 * j' + k') (X.2 (ii + 3)) (6 * r + c)
        rw [put_at hk hc6, hT.2.2.2.1 c r hc6 hr']; rfl
theorem st_force {X : XS} : LStep X Rel 801 := by
  intro Q I A L O ii bC bS hX hi hr zc
  obtain ⟨n, hT, hW, hR, hC, hM⟩ := id hr
  refine opA_force hX hi hT.2.1 hT.1 (fun hc => ?_) (fun k1 hc => ?_) (fun j hj ej hc => ?_)
  · exact opB_force hX hi hT.2.2.1 hT.1 (fun _ => ⟨rfl, zc _ _ _ _ (rel_26 hr _)⟩) (fun j hj e => absurd (by rw [e]; exact isCol_n hj) hc) (fun j hj e => absurd (by rw [e]; exact isCol_n hj) hc)
  · exact opB_force hX hi hT.2.2.1 hT.1 (fun h => absurd k1 h) (fun _ _ _ _ => ⟨rfl, zc _ _ _ _ (rel_26 hr _)⟩) (fun _ _ _ h => absurd h hc)
  · have k1 : isCol (X.2 (ii + 1)) := by rw [ej]; exact isCol_n hj
    refine opB_force hX hi hT.2.2.1 hT.1 (fun h => absurd k1 h) (fun _ _ _ h => absurd hc h) (fun j' hj' ej' _ => ?_)
    have q1 : j' = j := by rw [ej, nI_eq (by omega) (by omega)] at ej'; exact ej'.symm
    subst q1
    have hT' : Tbl n (va_up (va_up (va_up I 6 1) 26 0) 29 0) (va_up (studyA (va_up A 3 (upd (A 3) j' (X.2 (ii + 2)))) j' n) 23 (upd (studyA (va_up A 3 (upd (A 3) j' (X.2 (ii + 2)))) j' n 23) j' (X.2 (ii + 2)))) (studyL (va_up A 3 (upd (A 3) j' (X.2 (ii + 2)))) L j' n) := by
      refine Tbl_one (k := j') (B := va_up A 3 (upd (A 3) j' (X.2 (ii + 2)))) (L := L) hT rfl rfl rfl rfl rfl rfl rfl rfl rfl rfl rfl rfl (fun _ _ _ _ _ => rfl) ?_ ?_ ?_
      · intro c hck
        show upd (A 3) j' _ c = _
        rw [upd_at, if_neg hck]
      · exact hT.2.2.2.1
      · intro c hc6
        show FK (upd (A 3) j' (X.2 (ii + 2)) c) (upd (A 23) j' (X.2 (ii + 2)) c)
        rw [upd_at, upd_at]
        by_cases hck : c = j'
        · rw [if_pos hck, if_pos hck]; exact Or.inr ⟨rfl, hc⟩
        · rw [if_neg hck, if_neg hck]; exact hT.2.2.2.2.1 c hc6
    refine ⟨rfl, ?_, zc _ _ _ _ ?_⟩
    · rw [(mkd_e hT' hj).1]; rfl
    · exact rel_st hC rfl rfl rfl (Tbl_c rfl rfl rfl rfl rfl rfl rfl rfl rfl rfl rfl hT') (Wsh_c rfl rfl rfl rfl rfl rfl rfl rfl rfl rfl hW) (Rst_c rfl rfl rfl rfl rfl rfl rfl rfl rfl rfl hR)
theorem st_unforce {X : XS} : LStep X Rel 869 := by
  intro Q I A L O ii bC bS hX hi hr zc
  obtain ⟨n, hT, hW, hR, hC, hM⟩ := id hr
  have fk : ∀ j, j < 6 → (A 3 j = -1 ↔ A 23 j = 0) := by
    intro j hj
    rcases hT.2.2.2.2.1 j hj with ⟨z1, z2⟩ | ⟨z1, z2⟩
    · rw [z1, z2]; decide
    · rw [z1]; rcases z2 with z | z | z <;> rw [z] <;> decide
  refine opA_unforce hX hi hT.2.1 hT.1 (fun hc => ?_) (fun j hj ej hc => ?_) (fun j hj ej hc => ?_)
  · exact opB_unforce hX hi hT.2.2.1 hT.1 (fun _ => ⟨rfl, zc _ _ _ _ (rel_26 hr _)⟩) (fun j hj e => absurd (by rw [e]; exact isCol_n hj) hc) (fun j hj e => absurd (by rw [e]; exact isCol_n hj) hc)
  · have k1 : isCol (X.2 (ii + 1)) := by rw [ej]; exact isCol_n hj
    refine opB_unforce hX hi hT.2.2.1 hT.1 (fun h => absurd k1 h) (fun _ _ _ _ => ⟨rfl, zc _ _ _ _ (rel_26 hr _)⟩) (fun j' hj' ej' h => ?_)
    have q1 : j' = j := by rw [ej, nI_eq (by omega) (by omega)] at ej'; exact ej'.symm
    subst q1
    exact absurd ((fk j' hj).mp hc) h
  · have k1 : isCol (X.2 (ii + 1)) := by rw [ej]; exact isCol_n hj
    refine opB_unforce hX hi hT.2.2.1 hT.1 (fun h => absurd k1 h) (fun j' hj' ej' h => ?_) (fun j' hj' ej' _ => ?_)
    · have q1 : j' = j := by rw [ej, nI_eq (by omega) (by omega)] at ej'; exact ej'.symm
      subst q1
      exact absurd ((fk j' hj).mpr h) hc
    have q1 : j' = j := by rw [ej, nI_eq (by omega) (by omega)] at ej'; exact ej'.symm
    subst q1
    have hT' : Tbl n (va_up (va_up (va_up I 6 1) 26 0) 29 0) (va_up (studyA (va_up A 3 (upd (A 3) j' (-1))) j' n) 23 (upd (studyA (va_up A 3 (upd (A 3) j' (-1))) j' n 23) j' 0)) (studyL (va_up A 3 (upd (A 3) j' (-1))) L j' n) := by
      refine Tbl_one (k := j') (B := va_up A 3 (upd (A 3) j' (-1))) (L := L) hT rfl rfl rfl rfl rfl rfl rfl rfl rfl rfl rfl rfl (fun _ _ _ _ _ => rfl) ?_ ?_ ?_
      · intro c hck
        show upd (A 3) j' _ c = _
        rw [upd_at, if_neg hck]
      · exact hT.2.2.2.1
      · intro c hc6
        show FK (upd (A 3) j' (-1) c) (upd (A 23) j' 0 c)
        rw [upd_at, upd_at]
        by_cases hck : c = j'
        · rw [if_pos hck, if_pos hck]; exact FK_m1
        · rw [if_neg hck, if_neg hck]; exact hT.2.2.2.2.1 c hc6
    refine ⟨rfl, ?_, zc _ _ _ _ ?_⟩
    · rw [(mkd_e hT' hj).1]; rfl
    · exact rel_st hC rfl rfl rfl (Tbl_c rfl rfl rfl rfl rfl rfl rfl rfl rfl rfl rfl hT') (Wsh_c rfl rfl rfl rfl rfl rfl rfl rfl rfl rfl hW) (Rst_c rfl rfl rfl rfl rfl rfl rfl rfl rfl rfl hR)
