/-! the settings -/
theorem chr_ex {c : Int32} {f : Nat → Int32} (h : Chr c f) : ∃ m a s0 s1 s2 s3, dgt m a s0 s1 s2 s3 ∧ dist s0 s1 s2 s3 ∧ c = cod m a s0 s1 s2 s3 ∧ digF f m a s0 s1 s2 s3 := by
  obtain ⟨t, ht, hd, e, hf⟩ := h
  exact ⟨_, _, _, _, _, _, dgt_t ht, hd, e, hf⟩
theorem chr_mk {m a s0 s1 s2 s3 : Nat} {f : Nat → Int32} (h : dgt m a s0 s1 s2 s3) (hd : dist s0 s1 s2 s3) (hf : digF f m a s0 s1 s2 s3) : Chr (cod m a s0 s1 s2 s3) f := by
  obtain ⟨e1, e2, e3, e4, e5, e6, e7⟩ := t_idx h
  refine ⟨idx m a s0 s1 s2 s3, e7, ?_, (codI_idx h).symm, ?_⟩
  · unfold dstI; rw [e3, e4, e5, e6]; exact hd
  · unfold rowOf; rw [e1, e2, e3, e4, e5, e6]; exact hf
def clr (N j : Nat) : Nat := if N.testBit j then N - 2 ^ j else N
theorem wish_t : ∀ N, N < 64 → ∀ j, j < 6 → g_wish (nI N) (nI j) 0 = nI (clr N j) ∧ g_wish (nI N) (nI j) 1 = nI (N ||| 2 ^ j) ∧ clr N j < 64 ∧ N ||| 2 ^ j < 64 ∧ ∀ e, e < 6 → (clr N j).testBit e = (N.testBit e && !(decide (e = j))) := by decide +kernel
theorem wish_N (g : Nat → Int32) {j : Nat} (hj : j < 6) {z : Int32} (hz : z = 0 ∨ z = 1) : g_wish (nI (bN g 6)) (nI j) z = nI (bN (upd g j z) 6) := by
  obtain ⟨h1, h2, h3, h4, h5⟩ := wish_t (bN g 6) (bN_lt g 6) j hj
  rcases hz with rfl | rfl
  · rw [h1, bN_u (g := upd g j 0) (m := 6) h3 (fun e he => ?_)]
    rw [h5 e he, Bool.and_eq_true, bN_b, upd_at]
    by_cases hej : e = j
    · rw [if_pos hej]; simp [hej]
    · rw [if_neg hej]; simp [hej, he]
  · rw [h2, bN_u (g := upd g j 1) (m := 6) h4 (fun e he => ?_)]
    rw [fb_bit_set, Bool.or_eq_true, bN_b, upd_at]
    by_cases hej : e = j
    · rw [if_pos hej]; simp [hej]
    · rw [if_neg hej]; simp [hej, he]
theorem one_24 {s : Nat} (h : s < 31) : (1 : Int32) <<< (nI s &&& 31) = nI (2 ^ s) := by
  have : ∀ s, s < 31 → (1 : Int32) <<< (nI s &&& 31) = nI (2 ^ s) := by decide +kernel
  exact this s h
theorem turn_N (g : Nat → Int32) {i j : Nat} (hi : i < 6) (hj : j < 4) {z : Int32} (hz : (g (4 * i + j) = 0 ∧ z = 1) ∨ (¬ g (4 * i + j) = 0 ∧ z = 0)) : g_turn (nI (bN g 24)) (nI i) (nI j) = nI (bN (upd g (4 * i + j) z) 24) := by
  unfold g_turn
  rw [show nI i * 4 + nI j = nI (4 * i + j) from by rw [show (4 : Int32) = nI 4 from rfl, pk_mul, nI_add, Nat.mul_comm], one_24 (by omega), fb_xorI]
  have hlt : bN g 24 ^^^ 2 ^ (4 * i + j) < 2 ^ 24 := Nat.xor_lt_two_pow (bN_lt g 24) (Nat.pow_lt_pow_right (by decide) (by omega))
  rw [bN_u (g := upd g (4 * i + j) z) (m := 24) hlt (fun e he => ?_)]
  have hb := bN_b g 24 e
  rw [fb_bit_flip, upd_at]
  by_cases hej : e = 4 * i + j
  · rw [if_pos hej]
    subst hej
    rcases hz with ⟨h0, rfl⟩ | ⟨h0, rfl⟩
    · have : (bN g 24).testBit (4 * i + j) = false := by
        cases hc : (bN g 24).testBit (4 * i + j) with
        | false => rfl
        | true => exact absurd h0 (hb.mp hc).2
      rw [this]; simp
    · rw [hb.mpr ⟨he, h0⟩]; simp
  · rw [if_neg hej, decide_eq_false hej, Bool.xor_false, hb]
    exact ⟨fun y => y.2, fun y => ⟨he, y⟩⟩
theorem forb_N {I : Nat → Int32} {A : Nat → Nat → Int32} (hW : Wsh I A) {i j : Nat} (hi : i < 6) (hj : j < 4) : f_forb I (nI i) (nI j) ↔ ¬ A 28 (4 * i + j) = 0 := by
  unfold f_forb
  rw [show nI i * 4 + nI j = nI (4 * i + j) from by rw [show (4 : Int32) = nI 4 from rfl, pk_mul, nI_add, Nat.mul_comm], hW.2.2.2.2.1, bit_N (Nat.lt_trans (bN_lt _ 24) (by decide)) (by omega), bN_b]
  have hn : ¬ nI i = -1 := by
    intro z
    have h2 : ¬ nI i < 0 := nI_pos (by omega)
    rw [z] at h2; exact h2 (by decide)
  constructor
  · rintro ⟨-, h⟩ z; exact h (fun y => y.2 z)
  · intro h; exact ⟨hn, fun z => z ⟨by omega, h⟩⟩
theorem chr16 (x : Int32) : narrow .char (.int ((x.toUInt32 % 65536).toInt32)) = .int ((x.toUInt32 % 65536).toInt32) ∧ fits .char (.int ((x.toUInt32 % 65536).toInt32)) = true := by
  rw [pk_char]; exact pk_charN (Nat.mod_lt _ (by decide))
theorem mk16 {x : Int32} (h : isMk x ∨ x = 45) : narrow .char (.int x) = .int x := by
  rcases h with (rfl | rfl | rfl) | rfl
  · exact (pk_charN (q := 98) (by decide)).1
  · exact (pk_charN (q := 108) (by decide)).1
  · exact (pk_charN (q := 112) (by decide)).1
  · exact (pk_charN (q := 45) (by decide)).1
theorem st_wish {X : XS} : LStep X Rel 925 := by
  intro Q I A L O ii bC bS hX hi hr zc
  obtain ⟨n, hT, hW, hR, hC, hM⟩ := id hr
  refine opA_wish hX hi (fun hc => ?_) (fun hc => ?_)
  · exact opB_wish hX hi b2i_01 (fun _ => ⟨rfl, zc _ _ _ _ (rel_26 hr _)⟩) (fun j hj e => absurd (by rw [e]; exact isCol_n hj) hc)
  · refine opB_wish hX hi b2i_01 (fun hn => absurd hc hn) (fun j hj e => ⟨rfl, ?_, zc _ _ _ _ ?_⟩)
    · show (g_bc (g_wish (I 3) (X.2 (ii + 1)) (b2i (¬ X.2 (ii + 2) = 0)))).toInt64 = _
      rw [hW.1, e, wish_N (A 27) hj b2i_01, bc_cnt _ (by decide)]
    · obtain ⟨w1, w2, w3, w4, w5, w6, w7, w8⟩ := hW
      refine rel_st hC rfl rfl rfl (Tbl_c rfl rfl rfl rfl rfl rfl rfl rfl rfl rfl rfl hT) ⟨?_, fun k hk => ?_, w3, w4, w5, w6, w7, w8⟩ (Rst_c rfl rfl rfl rfl rfl rfl rfl rfl rfl rfl hR)
      · show g_wish (I 3) (X.2 (ii + 1)) (b2i (¬ X.2 (ii + 2) = 0)) = nI (bN (upd (A 27) j (b2i (¬ X.2 (ii + 2) = 0))) 6)
        rw [w1, e, wish_N (A 27) hj b2i_01]
      · show upd (A 27) j (b2i (¬ X.2 (ii + 2) = 0)) k = 0 ∨ upd (A 27) j (b2i (¬ X.2 (ii + 2) = 0)) k = 1
        rw [upd_at]; split
        · exact b2i_01
        · exact w2 k hk
theorem st_wishMark {X : XS} : LStep X Rel 1009 := by
  intro Q I A L O ii bC bS hX hi hr zc
  obtain ⟨n, hT, hW, hR, hC, hM⟩ := id hr
  have h27 : narrow .char (.int (I 27)) = .int (I 27) := by rw [← hW.2.2.1]; exact mk16 hW.2.2.2.1
  obtain ⟨c1, c2⟩ := chr16 (X.2 (ii + 1))
  refine opA_wishMark hX hi c1 c2 (mk16 hW.2.2.2.1) (fun hc hd => ?_) (fun hc => ?_)
  · exact opB_wishMark hX hi c1 c2 h27 (fun _ => ⟨rfl, zc _ _ _ _ (rel_26 hr _)⟩) (fun h => h.elim (fun y => absurd y hc) (fun y => absurd y hd))
  · refine opB_wishMark hX hi c1 c2 h27 (fun hn => absurd hc hn) (fun _ => ⟨rfl, ?_, zc _ _ _ _ ?_⟩)
    · show (I 4).toInt64 = (I 27).toInt64
      rw [hW.2.2.1]
    · obtain ⟨w1, w2, w3, w4, w5, w6, w7, w8⟩ := hW
      exact rel_st hC rfl rfl rfl (Tbl_c rfl rfl rfl rfl rfl rfl rfl rfl rfl rfl rfl hT) ⟨w1, w2, rfl, hc, w5, w6, w7, w8⟩ (Rst_c rfl rfl rfl rfl rfl rfl rfl rfl rfl rfl hR)
theorem st_forbid {X : XS} : LStep X Rel 1067 := by
  intro Q I A L O ii bC bS hX hi hr zc
  obtain ⟨n, hT, hW, hR, hC, hM⟩ := id hr
  have no : ∀ {P : Prop}, ¬ (isCol (X.2 (ii + 1)) ∧ isChan (X.2 (ii + 2))) → ∀ i j, i < 6 → j < 4 → X.2 (ii + 1) = nI i → X.2 (ii + 2) = nI j → P := fun hc i j hi hj e1 e2 => absurd ⟨by rw [e1]; exact isCol_n hi, by rw [e2]; exact chan_i hj⟩ hc
  refine opA_forbid hX hi (fun hc => ?_) (fun k1 k2 hc => ?_) (fun k1 k2 hc => ?_)
  · exact opB_forbid hX hi (fun _ => ⟨rfl, zc _ _ _ _ (rel_26 hr _)⟩) (fun i j hi' hj e1 e2 _ => no hc i j hi' hj e1 e2) (fun i j hi' hj e1 e2 _ => no hc i j hi' hj e1 e2)
  · refine opB_forbid hX hi (fun h => absurd ⟨k1, k2⟩ h) (fun i j hi' hj e1 e2 _ => ⟨rfl, zc _ _ _ _ (rel_26 hr _)⟩) (fun i j hi' hj e1 e2 h => ?_)
    rw [e1, e2, forb_N hW hi' hj] at hc
    exact absurd ((hW.2.2.2.2.2.1 (4 * i + j) (by omega)).resolve_left hc) h
  · refine opB_forbid hX hi (fun h => absurd ⟨k1, k2⟩ h) (fun i j hi' hj e1 e2 h => ?_) (fun i j hi' hj e1 e2 h => ?_)
    · rw [e1, e2, forb_N hW hi' hj] at hc
      have h' : A 28 (4 * i + j) = 1 := h
      exact absurd (by rw [h']; decide) hc
    · have h0 : A 28 (4 * i + j) = 0 := (hW.2.2.2.2.2.1 (4 * i + j) (by omega)).resolve_right h
      have et : g_turn (I 5) (X.2 (ii + 1)) (X.2 (ii + 2)) = nI (bN (upd (A 28) (4 * i + j) 1) 24) := by rw [hW.2.2.2.2.1, e1, e2, turn_N (A 28) hi' hj (Or.inl ⟨h0, rfl⟩)]
      refine ⟨rfl, ?_, zc _ _ _ _ ?_⟩
      · show (g_bc (g_turn (I 5) (X.2 (ii + 1)) (X.2 (ii + 2)))).toInt64 = _
        rw [et, bc_cnt _ (by decide)]
      · obtain ⟨w1, w2, w3, w4, w5, w6, w7, w8⟩ := hW
        refine rel_st hC rfl rfl rfl (Tbl_c rfl rfl rfl rfl rfl rfl rfl rfl rfl rfl rfl hT) ⟨w1, w2, w3, w4, et, fun k hk => ?_, w7, w8⟩ (Rst_c rfl rfl rfl rfl rfl rfl rfl rfl rfl rfl hR)
        show upd (A 28) (4 * i + j) 1 k = 0 ∨ upd (A 28) (4 * i + j) 1 k = 1
        rw [upd_at]; split
        · exact Or.inr rfl
        · exact w6 k hk
theorem st_allow {X : XS} : LStep X Rel 1135 := by
  intro Q I A L O ii bC bS hX hi hr zc
  obtain ⟨n, hT, hW, hR, hC, hM⟩ := id hr
  have no : ∀ {P : Prop}, ¬ (isCol (X.2 (ii + 1)) ∧ isChan (X.2 (ii + 2))) → ∀ i j, i < 6 → j < 4 → X.2 (ii + 1) = nI i → X.2 (ii + 2) = nI j → P := fun hc i j hi hj e1 e2 => absurd ⟨by rw [e1]; exact isCol_n hi, by rw [e2]; exact chan_i hj⟩ hc
  refine opA_allow hX hi (fun hc => ?_) (fun k1 k2 hc => ?_) (fun k1 k2 hc => ?_)
  · exact opB_allow hX hi (fun _ => ⟨rfl, zc _ _ _ _ (rel_26 hr _)⟩) (fun i j hi' hj e1 e2 _ => no hc i j hi' hj e1 e2) (fun i j hi' hj e1 e2 _ => no hc i j hi' hj e1 e2)
  · refine opB_allow hX hi (fun h => absurd ⟨k1, k2⟩ h) (fun i j hi' hj e1 e2 _ => ⟨rfl, zc _ _ _ _ (rel_26 hr _)⟩) (fun i j hi' hj e1 e2 h => ?_)
    rw [e1, e2, forb_N hW hi' hj] at hc
    exact absurd h hc
  · refine opB_allow hX hi (fun h => absurd ⟨k1, k2⟩ h) (fun i j hi' hj e1 e2 h => ?_) (fun i j hi' hj e1 e2 h => ?_)
    · rw [e1, e2, forb_N hW hi' hj] at hc
      exact absurd h hc
    · have et : g_turn (I 5) (X.2 (ii + 1)) (X.2 (ii + 2)) = nI (bN (upd (A 28) (4 * i + j) 0) 24) := by rw [hW.2.2.2.2.1, e1, e2, turn_N (A 28) hi' hj (Or.inr ⟨h, rfl⟩)]
      refine ⟨rfl, ?_, zc _ _ _ _ ?_⟩
      · show (g_bc (g_turn (I 5) (X.2 (ii + 1)) (X.2 (ii + 2)))).toInt64 = _
        rw [et, bc_cnt _ (by decide)]
      · obtain ⟨w1, w2, w3, w4, w5, w6, w7, w8⟩ := hW
        refine rel_st hC rfl rfl rfl (Tbl_c rfl rfl rfl rfl rfl rfl rfl rfl rfl rfl rfl hT) ⟨w1, w2, w3, w4, et, fun k hk => ?_, w7, w8⟩ (Rst_c rfl rfl rfl rfl rfl rfl rfl rfl rfl rfl hR)
        show upd (A 28) (4 * i + j) 0 k = 0 ∨ upd (A 28) (4 * i + j) 0 k = 1
        rw [upd_at]; split
        · exact Or.inl rfl
        · exact w6 k hk
theorem rule_i {j : Nat} (h : j < 8) : isRule (nI j) := by
  refine ⟨nI_pos' (by omega), ?_⟩
  rw [show (8 : Int32) = nI 8 from rfl, nI_ltI (by omega) (by decide)]; exact h
theorem st_setWeight {X : XS} : LStep X Rel 1203 := by
  intro Q I A L O ii bC bS hX hi hr zc
  obtain ⟨n, hT, hW, hR, hC, hM⟩ := id hr
  refine opA_setWeight hX hi (fun hc => ?_) (fun k1 hc => ?_) (fun j hj e hc => ?_)
  · exact opB_setWeight hX hi (fun _ => ⟨rfl, zc _ _ _ _ (rel_26 hr _)⟩) (fun h => absurd h hc) (fun j hj e => absurd (by rw [e]; exact rule_i hj) hc)
  · exact opB_setWeight hX hi (fun h => absurd k1 h) (fun _ _ => ⟨rfl, zc _ _ _ _ (rel_26 hr _)⟩) (fun _ _ _ h => absurd h hc)
  · have k1 : isRule (X.2 (ii + 1)) := by rw [e]; exact rule_i hj
    refine opB_setWeight hX hi (fun h => absurd k1 h) (fun _ h => absurd hc h) (fun j' hj' e' _ => ⟨rfl, ?_, zc _ _ _ _ ?_⟩)
    · have ej : j' = j := by rw [e, nI_eq (by omega) (by omega)] at e'; exact e'.symm
      subst ej
      show (A 11 j').toInt64 = (A 24 j').toInt64
      rw [(hW.2.2.2.2.2.2.1 j' hj').1]
    · have ej : j' = j := by rw [e, nI_eq (by omega) (by omega)] at e'; exact e'.symm
      subst ej
      obtain ⟨w1, w2, w3, w4, w5, w6, w7, w8⟩ := hW
      refine rel_st hC rfl rfl rfl (Tbl_c rfl rfl rfl rfl rfl rfl rfl rfl rfl rfl rfl hT) ⟨w1, w2, w3, w4, w5, w6, fun k hk => ?_, w8⟩ (Rst_c rfl rfl rfl rfl rfl rfl rfl rfl rfl rfl hR)
      show upd (A 11) j' (X.2 (ii + 2)) k = upd (A 24) j' (X.2 (ii + 2)) k ∧ 0 ≤ upd (A 24) j' (X.2 (ii + 2)) k ∧ upd (A 24) j' (X.2 (ii + 2)) k ≤ 99
      rw [upd_at, upd_at]
      by_cases hk' : k = j'
      · rw [if_pos hk', if_pos hk']; exact ⟨rfl, hc⟩
      · rw [if_neg hk', if_neg hk']; exact w7 k hk
