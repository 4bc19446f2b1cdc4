/-! the law's loop and its beginning -/
/-- one call of the script: from its place in the law to the loop's end, with the relation kept -/
def LStep (X : XS) (Rel : (Nat → Int32) → (Nat → Nat → Int32) → (Nat → Nat → Int64) → (Nat → UInt64) → Prop) (pc : Nat) : Prop :=
  ∀ (Q : AO → AH → Prop) (I : Nat → Int32) (A : Nat → Nat → Int32) (L : Nat → Nat → Int64) (O : Nat → UInt64) (ii bC bS : Nat), X.1 ≤ 3584 → ii + 7 ≤ X.1 → Rel I A L O →
    (∀ I' A' L' O', Rel I' A' L' O' → AW X 234 2206 [(0, .ref 1003), (1, .ref 0), (2, .ref 21), (3, .ref 35), (4, .ref 36), (5, .int (nI ii))] [] (hp I' A' L' O') bC bS Q) → AW X 234 pc [(0, .ref 1003), (1, .ref 0), (2, .ref 21), (3, .ref 35), (4, .ref 36), (5, .int (nI ii))] [] (hp I A L O) (bC + 5) (bS + 25) Q
theorem lw_gt {N i : Nat} (hN : N ≤ 3584) (hi : i < 4000) : nI N - 7 < nI i ↔ N < i + 7 := by
  rw [i_lt, show (7 : Int32) = nI 7 from rfl, pk_sub_toInt (by omega) (by omega), nI_toInt (by omega)]; omega
theorem law_loop {X : XS} {Q : AO → AH → Prop} (hX : X.1 ≤ 3584) (Rel : (Nat → Int32) → (Nat → Nat → Int32) → (Nat → Nat → Int64) → (Nat → UInt64) → Prop) (hq : ∀ h, Q (.inl (some (.int 1))) h) (h0 : LStep X Rel 212) (h1 : LStep X Rel 330) (h2 : LStep X Rel 386) (h3 : LStep X Rel 466) (h4 : LStep X Rel 479) (h5 : LStep X Rel 535) (h6 : LStep X Rel 590) (h7 : LStep X Rel 667) (h8 : LStep X Rel 745) (h9 : LStep X Rel 801) (h10 : LStep X Rel 869) (h11 : LStep X Rel 925) (h12 : LStep X Rel 1009) (h13 : LStep X Rel 1067) (h14 : LStep X Rel 1135) (h15 : LStep X Rel 1203) (h16 : LStep X Rel 1271) (h17 : LStep X Rel 1284) (h18 : LStep X Rel 1340) (h19 : LStep X Rel 1396) (h20 : LStep X Rel 1452) (h21 : LStep X Rel 1508) (h22 : LStep X Rel 1576) (h23 : LStep X Rel 1632) (h24 : LStep X Rel 1683) (h25 : LStep X Rel 1727) (h26 : LStep X Rel 1771) (h27 : LStep X Rel 1827) (h28 : LStep X Rel 1840) (h29 : LStep X Rel 1884) (h30 : LStep X Rel 1897) (h31 : LStep X Rel 1955) (h32 : LStep X Rel 2011) (h33 : LStep X Rel 2079) (h34 : LStep X Rel 2092) (h35 : LStep X Rel 2105) (h36 : LStep X Rel 2149) (h37 : LStep X Rel 2193) (m : Nat) : ∀ {I : Nat → Int32} {A : Nat → Nat → Int32} {L : Nat → Nat → Int64} {O : Nat → UInt64} {ii : Nat}, ii < 4000 → X.1 < ii + 7 + 7 * m → Rel I A L O → AW X 234 28 [(0, .ref 1003), (1, .ref 0), (2, .ref 21), (3, .ref 35), (4, .ref 36), (5, .int (nI ii))] [] (hp I A L O) (5 * m) (25 * m) Q := by
  induction m with
  | zero =>
    intro I A L O ii hi hm hr
    refine a_iload q234_28 rfl ?_
    refine a_aload_n (i := 0) q234_30 rfl rfl ?_
    refine a_alen_ro (j := 3) (v := nI X.1) q234_31 rfl (by decide) rfl ?_
    refine a_bipush (v := 7) q234_32 (by decide) ?_
    refine a_isub q234_34 ?_
    refine a_icmp_gt (tgt := 2212) q234_35 (by decide) (fun zc35 => ?_) (fun zc35 => absurd ((lw_gt hX hi).mpr (by omega)) zc35)
    refine a_iconst (v := 1) q234_2212 (by decide) ?_
    refine a_ireturn q234_2213 (nr_bool rfl (by decide)) ?_
    exact hq _
  | succ m ih =>
    intro I A L O ii hi hm hr
    refine a_iload q234_28 rfl ?_
    refine a_aload_n (i := 0) q234_30 rfl rfl ?_
    refine a_alen_ro (j := 3) (v := nI X.1) q234_31 rfl (by decide) rfl ?_
    refine a_bipush (v := 7) q234_32 (by decide) ?_
    refine a_isub q234_34 ?_
    skip
    refine a_icmp_gt (tgt := 2212) q234_35 (by decide) (fun zc35 => ?_) (fun zc35 => ?_)
    · skip
      refine a_iconst (v := 1) q234_2212 (by decide) ?_
      refine a_ireturn q234_2213 (nr_bool rfl (by decide)) ?_
      exact hq _
    · skip
      have zi : ii + 7 ≤ X.1 := Nat.le_of_not_lt (fun zz => zc35 ((lw_gt hX hi).mpr zz))
      refine a_aload_n (i := 0) q234_38 rfl rfl ?_
      refine a_iload q234_39 rfl ?_
      refine a_scr (k := ii) q234_41 rfl (by omega) hX ?_
      refine a_bipush (v := 63) q234_42 (by decide) ?_
      refine a_iand q234_44 ?_
      obtain ⟨j, hj, zj⟩ := pk_andE (X.2 ii) (m := 63) 6 (by decide)
      refine AW.ti zj ?_
      have zc : ∀ I' A' L' O', Rel I' A' L' O' → AW X 234 2206 [(0, .ref 1003), (1, .ref 0), (2, .ref 21), (3, .ref 35), (4, .ref 36), (5, .int (nI ii))] [] (hp I' A' L' O') (5 * m) (25 * m) Q := by
        intro I' A' L' O' hr'
        refine a_iinc (v := nI (ii + 7)) (lv' := [(0, _), (1, _), (2, _), (3, _), (4, _), (5, _)]) q234_2206 rfl rfl (nI_add ii 7) rfl ?_
        refine a_goto (tgt := 28) q234_2209 (by decide) ?_
        exact ih (by omega) (by omega) hr'
      by_cases zd : j < 38
      · rcases (show j = 0 ∨ j = 1 ∨ j = 2 ∨ j = 3 ∨ j = 4 ∨ j = 5 ∨ j = 6 ∨ j = 7 ∨ j = 8 ∨ j = 9 ∨ j = 10 ∨ j = 11 ∨ j = 12 ∨ j = 13 ∨ j = 14 ∨ j = 15 ∨ j = 16 ∨ j = 17 ∨ j = 18 ∨ j = 19 ∨ j = 20 ∨ j = 21 ∨ j = 22 ∨ j = 23 ∨ j = 24 ∨ j = 25 ∨ j = 26 ∨ j = 27 ∨ j = 28 ∨ j = 29 ∨ j = 30 ∨ j = 31 ∨ j = 32 ∨ j = 33 ∨ j = 34 ∨ j = 35 ∨ j = 36 ∨ j = 37 by omega) with rfl | rfl | rfl | rfl | rfl | rfl | rfl | rfl | rfl | rfl | rfl | rfl | rfl | rfl | rfl | rfl | rfl | rfl | rfl | rfl | rfl | rfl | rfl | rfl | rfl | rfl | rfl | rfl | rfl | rfl | rfl | rfl | rfl | rfl | rfl | rfl | rfl | rfl
        · refine a_tableIn (off := 167) (tgt := 212) q234_45 (by decide) (by decide) rfl (by decide) ?_
          exact h0 Q I A L O ii (5 * m) (25 * m) hX zi hr zc
        · refine a_tableIn (off := 285) (tgt := 330) q234_45 (by decide) (by decide) rfl (by decide) ?_
          exact h1 Q I A L O ii (5 * m) (25 * m) hX zi hr zc
        · refine a_tableIn (off := 341) (tgt := 386) q234_45 (by decide) (by decide) rfl (by decide) ?_
          exact h2 Q I A L O ii (5 * m) (25 * m) hX zi hr zc
        · refine a_tableIn (off := 421) (tgt := 466) q234_45 (by decide) (by decide) rfl (by decide) ?_
          exact h3 Q I A L O ii (5 * m) (25 * m) hX zi hr zc
        · refine a_tableIn (off := 434) (tgt := 479) q234_45 (by decide) (by decide) rfl (by decide) ?_
          exact h4 Q I A L O ii (5 * m) (25 * m) hX zi hr zc
        · refine a_tableIn (off := 490) (tgt := 535) q234_45 (by decide) (by decide) rfl (by decide) ?_
          exact h5 Q I A L O ii (5 * m) (25 * m) hX zi hr zc
        · refine a_tableIn (off := 545) (tgt := 590) q234_45 (by decide) (by decide) rfl (by decide) ?_
          exact h6 Q I A L O ii (5 * m) (25 * m) hX zi hr zc
        · refine a_tableIn (off := 622) (tgt := 667) q234_45 (by decide) (by decide) rfl (by decide) ?_
          exact h7 Q I A L O ii (5 * m) (25 * m) hX zi hr zc
        · refine a_tableIn (off := 700) (tgt := 745) q234_45 (by decide) (by decide) rfl (by decide) ?_
          exact h8 Q I A L O ii (5 * m) (25 * m) hX zi hr zc
        · refine a_tableIn (off := 756) (tgt := 801) q234_45 (by decide) (by decide) rfl (by decide) ?_
          exact h9 Q I A L O ii (5 * m) (25 * m) hX zi hr zc
        · refine a_tableIn (off := 824) (tgt := 869) q234_45 (by decide) (by decide) rfl (by decide) ?_
          exact h10 Q I A L O ii (5 * m) (25 * m) hX zi hr zc
        · refine a_tableIn (off := 880) (tgt := 925) q234_45 (by decide) (by decide) rfl (by decide) ?_
          exact h11 Q I A L O ii (5 * m) (25 * m) hX zi hr zc
        · refine a_tableIn (off := 964) (tgt := 1009) q234_45 (by decide) (by decide) rfl (by decide) ?_
          exact h12 Q I A L O ii (5 * m) (25 * m) hX zi hr zc
        · refine a_tableIn (off := 1022) (tgt := 1067) q234_45 (by decide) (by decide) rfl (by decide) ?_
          exact h13 Q I A L O ii (5 * m) (25 * m) hX zi hr zc
        · refine a_tableIn (off := 1090) (tgt := 1135) q234_45 (by decide) (by decide) rfl (by decide) ?_
          exact h14 Q I A L O ii (5 * m) (25 * m) hX zi hr zc
        · refine a_tableIn (off := 1158) (tgt := 1203) q234_45 (by decide) (by decide) rfl (by decide) ?_
          exact h15 Q I A L O ii (5 * m) (25 * m) hX zi hr zc
        · refine a_tableIn (off := 1226) (tgt := 1271) q234_45 (by decide) (by decide) rfl (by decide) ?_
          exact h16 Q I A L O ii (5 * m) (25 * m) hX zi hr zc
        · refine a_tableIn (off := 1239) (tgt := 1284) q234_45 (by decide) (by decide) rfl (by decide) ?_
          exact h17 Q I A L O ii (5 * m) (25 * m) hX zi hr zc
        · refine a_tableIn (off := 1295) (tgt := 1340) q234_45 (by decide) (by decide) rfl (by decide) ?_
          exact h18 Q I A L O ii (5 * m) (25 * m) hX zi hr zc
        · refine a_tableIn (off := 1351) (tgt := 1396) q234_45 (by decide) (by decide) rfl (by decide) ?_
          exact h19 Q I A L O ii (5 * m) (25 * m) hX zi hr zc
        · refine a_tableIn (off := 1407) (tgt := 1452) q234_45 (by decide) (by decide) rfl (by decide) ?_
          exact h20 Q I A L O ii (5 * m) (25 * m) hX zi hr zc
        · refine a_tableIn (off := 1463) (tgt := 1508) q234_45 (by decide) (by decide) rfl (by decide) ?_
          exact h21 Q I A L O ii (5 * m) (25 * m) hX zi hr zc
        · refine a_tableIn (off := 1531) (tgt := 1576) q234_45 (by decide) (by decide) rfl (by decide) ?_
          exact h22 Q I A L O ii (5 * m) (25 * m) hX zi hr zc
        · refine a_tableIn (off := 1587) (tgt := 1632) q234_45 (by decide) (by decide) rfl (by decide) ?_
          exact h23 Q I A L O ii (5 * m) (25 * m) hX zi hr zc
        · refine a_tableIn (off := 1638) (tgt := 1683) q234_45 (by decide) (by decide) rfl (by decide) ?_
          exact h24 Q I A L O ii (5 * m) (25 * m) hX zi hr zc
        · refine a_tableIn (off := 1682) (tgt := 1727) q234_45 (by decide) (by decide) rfl (by decide) ?_
          exact h25 Q I A L O ii (5 * m) (25 * m) hX zi hr zc
        · refine a_tableIn (off := 1726) (tgt := 1771) q234_45 (by decide) (by decide) rfl (by decide) ?_
          exact h26 Q I A L O ii (5 * m) (25 * m) hX zi hr zc
        · refine a_tableIn (off := 1782) (tgt := 1827) q234_45 (by decide) (by decide) rfl (by decide) ?_
          exact h27 Q I A L O ii (5 * m) (25 * m) hX zi hr zc
        · refine a_tableIn (off := 1795) (tgt := 1840) q234_45 (by decide) (by decide) rfl (by decide) ?_
          exact h28 Q I A L O ii (5 * m) (25 * m) hX zi hr zc
        · refine a_tableIn (off := 1839) (tgt := 1884) q234_45 (by decide) (by decide) rfl (by decide) ?_
          exact h29 Q I A L O ii (5 * m) (25 * m) hX zi hr zc
        · refine a_tableIn (off := 1852) (tgt := 1897) q234_45 (by decide) (by decide) rfl (by decide) ?_
          exact h30 Q I A L O ii (5 * m) (25 * m) hX zi hr zc
        · refine a_tableIn (off := 1910) (tgt := 1955) q234_45 (by decide) (by decide) rfl (by decide) ?_
          exact h31 Q I A L O ii (5 * m) (25 * m) hX zi hr zc
        · refine a_tableIn (off := 1966) (tgt := 2011) q234_45 (by decide) (by decide) rfl (by decide) ?_
          exact h32 Q I A L O ii (5 * m) (25 * m) hX zi hr zc
        · refine a_tableIn (off := 2034) (tgt := 2079) q234_45 (by decide) (by decide) rfl (by decide) ?_
          exact h33 Q I A L O ii (5 * m) (25 * m) hX zi hr zc
        · refine a_tableIn (off := 2047) (tgt := 2092) q234_45 (by decide) (by decide) rfl (by decide) ?_
          exact h34 Q I A L O ii (5 * m) (25 * m) hX zi hr zc
        · refine a_tableIn (off := 2060) (tgt := 2105) q234_45 (by decide) (by decide) rfl (by decide) ?_
          exact h35 Q I A L O ii (5 * m) (25 * m) hX zi hr zc
        · refine a_tableIn (off := 2104) (tgt := 2149) q234_45 (by decide) (by decide) rfl (by decide) ?_
          exact h36 Q I A L O ii (5 * m) (25 * m) hX zi hr zc
        · refine a_tableIn (off := 2148) (tgt := 2193) q234_45 (by decide) (by decide) rfl (by decide) ?_
          exact h37 Q I A L O ii (5 * m) (25 * m) hX zi hr zc
      · refine a_tableOut (tgt := 2206) q234_45 (Or.inr (by rw [nI_toInt (by omega)]; omega)) (by decide) ?_
        exact AW.wide (show 5 * m ≤ 5 * m + 5 by omega) (show 25 * m ≤ 25 * m + 25 by omega) (zc I A L O hr)
theorem law_start {X : XS} {Q : AO → AH → Prop} (hX : X.1 ≤ 3584) (Rel : (Nat → Int32) → (Nat → Nat → Int32) → (Nat → Nat → Int64) → (Nat → UInt64) → Prop) (hq : ∀ h, Q (.inl (some (.int 1))) h) (hr : Rel iI (iA PLC) iL (fun _ => 0)) (h0 : LStep X Rel 212) (h1 : LStep X Rel 330) (h2 : LStep X Rel 386) (h3 : LStep X Rel 466) (h4 : LStep X Rel 479) (h5 : LStep X Rel 535) (h6 : LStep X Rel 590) (h7 : LStep X Rel 667) (h8 : LStep X Rel 745) (h9 : LStep X Rel 801) (h10 : LStep X Rel 869) (h11 : LStep X Rel 925) (h12 : LStep X Rel 1009) (h13 : LStep X Rel 1067) (h14 : LStep X Rel 1135) (h15 : LStep X Rel 1203) (h16 : LStep X Rel 1271) (h17 : LStep X Rel 1284) (h18 : LStep X Rel 1340) (h19 : LStep X Rel 1396) (h20 : LStep X Rel 1452) (h21 : LStep X Rel 1508) (h22 : LStep X Rel 1576) (h23 : LStep X Rel 1632) (h24 : LStep X Rel 1683) (h25 : LStep X Rel 1727) (h26 : LStep X Rel 1771) (h27 : LStep X Rel 1827) (h28 : LStep X Rel 1840) (h29 : LStep X Rel 1884) (h30 : LStep X Rel 1897) (h31 : LStep X Rel 1955) (h32 : LStep X Rel 2011) (h33 : LStep X Rel 2079) (h34 : LStep X Rel 2092) (h35 : LStep X Rel 2105) (h36 : LStep X Rel 2149) (h37 : LStep X Rel 2193) : AW X 234 0 [(0, .ref 1003)] [] [] 2700 16000 Q := by
  refine a_new (a := 7) (kn := 0) q234_0 rfl (by decide) rfl ⟨rfl, rfl⟩ ?_
  refine a_dup q234_3 rfl ?_
  refine a_callI (as := []) q234_4 rfl rfl ⟨rfl, rfl⟩ (Or.inr ⟨rfl, rfl, rfl⟩) (c_X9_init (ck_v ?_))
  refine a_astore_n (i := 1) (lv' := [(0, _), (1, _)]) q234_7 rfl rfl rfl ?_
  refine a_new (a := 8) (kn := 21) q234_8 rfl (by decide) rfl ⟨rfl, rfl⟩ ?_
  refine a_dup q234_11 rfl ?_
  refine a_callI (as := []) q234_12 rfl rfl ⟨rfl, rfl⟩ (Or.inr ⟨rfl, rfl, rfl⟩) (c_X10_init (ck_v ?_))
  refine a_astore_n (i := 2) (lv' := [(0, _), (1, _), (2, _)]) q234_15 rfl rfl rfl ?_
  refine a_iconst (v := 1) q234_16 (by decide) ?_
  refine a_newarray (a := 1) (kn := 35) (N := 1) q234_17 (by decide) rfl (by decide) rfl (by decide) rfl ⟨rfl, rfl⟩ ?_
  refine a_astore_n (i := 3) (lv' := [(0, _), (1, _), (2, _), (3, _)]) q234_19 rfl rfl rfl ?_
  refine a_iconst (v := 1) q234_20 (by decide) ?_
  refine a_newarray (a := 2) (kn := 36) (N := 1) q234_21 (by decide) rfl (by decide) rfl (by decide) rfl ⟨rfl, rfl⟩ ?_
  refine a_astore (i := 4) (lv' := [(0, _), (1, _), (2, _), (3, _), (4, _)]) q234_23 rfl rfl ?_
  refine a_iconst (v := 0) q234_25 (by decide) ?_
  refine a_istore (i := 5) (lv' := [(0, _), (1, _), (2, _), (3, _), (4, _), (5, _)]) q234_26 rfl rfl ?_
  refine AW.hp (h' := hp iI (iA PLC) iL (fun _ => 0)) (hp_init PLC) ?_
  exact AW.wide (bc' := 5 * 512) (bs' := 25 * 512) (by decide) (by decide) (AW.lv (lv' := [(0, .ref 1003), (1, .ref 0), (2, .ref 21), (3, .ref 35), (4, .ref 36), (5, .int (nI 0))]) rfl (law_loop hX Rel hq h0 h1 h2 h3 h4 h5 h6 h7 h8 h9 h10 h11 h12 h13 h14 h15 h16 h17 h18 h19 h20 h21 h22 h23 h24 h25 h26 h27 h28 h29 h30 h31 h32 h33 h34 h35 h36 h37 512 (by decide) (by omega) hr))