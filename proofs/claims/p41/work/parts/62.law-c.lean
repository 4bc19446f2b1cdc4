/-! the law's nine rules -/
/-- the rule r is kept -/
def kp (A : Nat → Nat → Int32) (K C : Nat → Int32) (r : Nat) : Prop := match r with
  | 1 => ¬ (C 2 < 0 ∧ C 3 < 0)
  | 2 => ¬ m_dead (VB A K) C
  | 3 => ¬ (0 ≤ C 5 ∧ ¬ (m_of (VB A K) C 3 = 4 ∧ C 0 = 2))
  | 4 => ¬ m_b4 (VB A K) C
  | 5 => ¬ m_b5 (VB A K) C
  | 6 => ¬ (C 1 = 1 ∧ 0 ≤ C 3)
  | 7 => ¬ (C 1 = 2 ∧ ¬ (m_of (VB A K) C 1 = 4 ∧ m_grp (VB A K) C))
  | 8 => ¬ m_off (VB A K) C
  | _ => wshM (A 30 1) (VB A K) C 6
abbrev TALL (A : Nat → Nat → Int32) (K C : Nat → Int32) : Prop := m_of (VB A K) C 1 = 4 ∨ C 1 = 1
def PA (A : Nat → Nat → Int32) (K C : Nat → Int32) (r j : Nat) : Prop := (r = 2 → ¬ m_dd (VB A K) C j) ∧ (r = 8 → ¬ m_oo (VB A K) C j)
/-- 0 or 1, as the condition says -/
def tru (v : Int32) (p : Prop) : Prop := (v = 0 ∨ v = 1) ∧ (¬ v = 0 ↔ p)
theorem tru_b {p : Prop} [Decidable p] : tru (b2i p) p := ⟨b2i_01, b2i_nz⟩
theorem tru_c {v : Int32} {p q : Prop} (h : tru v p) (e : p ↔ q) : tru v q := ⟨h.1, h.2.trans e⟩
theorem tru_and {v : Int32} {p : Prop} {q : Prop} [Decidable q] (h : tru v p) : tru (v &&& b2i q) (p ∧ q) := ⟨(b01_and h.1 q).1, (b01_and h.1 q).2.trans ⟨fun z => ⟨h.2.mp z.1, z.2⟩, fun z => ⟨h.2.mpr z.1, z.2⟩⟩⟩
theorem tru_1 {p : Prop} (h : p) : tru 1 p := ⟨Or.inr rfl, ⟨fun _ => h, fun _ => by decide⟩⟩
theorem tru_0 {p : Prop} (h : ¬ p) : tru 0 p := ⟨Or.inl rfl, ⟨fun z => absurd rfl z, fun z => absurd z h⟩⟩
theorem dd_kS {K : Nat → Int32} {A : Nat → Nat → Int32} {C : Nat → Int32} {k s : Nat} (hK : ∀ c, c < 6 → 0 ≤ K c ∧ K c ≤ 4) (hs : s < 7) (hf : C (2 + k) = xI s) : m_dd (VB A K) C k ↔ (kS K s = 0 ∨ kS K s = 1) := by
  have e : m_dd (VB A K) C k ↔ 0 ≤ kS K s ∧ kS K s ≤ 1 := by unfold m_dd; rw [vb_of hs hf]
  rw [e]
  have zl := lits
  simp only [i_le, i_eq]
  omega
theorem ex_s {C : Nat → Int32} {m a s0 s1 s2 s3 k : Nat} (hd : dgt m a s0 s1 s2 s3) (hf : digF C m a s0 s1 s2 s3) (hk : k < 4) : ∃ s, s < 7 ∧ C (2 + k) = xI s := by
  rcases (show k = 0 ∨ k = 1 ∨ k = 2 ∨ k = 3 by omega) with rfl | rfl | rfl | rfl
  · exact ⟨s0, hd.2.2.1, hf.2.2.1⟩
  · exact ⟨s1, hd.2.2.2.1, hf.2.2.2.1⟩
  · exact ⟨s2, hd.2.2.2.2.1, hf.2.2.2.2.1⟩
  · exact ⟨s3, hd.2.2.2.2.2, hf.2.2.2.2.2⟩
theorem oo_kS {K : Nat → Int32} {A : Nat → Nat → Int32} {C : Nat → Int32} {k s : Nat} (hk : k < 4) (hs : s < 7) (hf : C (2 + k) = xI s) : m_oo (VB A K) C k ↔ (¬ s = 0 ∧ ¬ ((A 30 (40 + (s - 1)) >>> (nI k &&& 31)) &&& 1) = 0) := by
  unfold m_oo
  rw [hf, xI_ge hs]
  by_cases h0 : s = 0
  · simp [h0]
  · rw [xI_cl hs h0]
    show (¬ s = 0 ∧ ¬ ((A 30 (40 + (4 * (s - 1) + k) / 4) >>> (nI ((4 * (s - 1) + k) % 4) &&& 31)) &&& 1) = 0) ↔ _
    rw [show (4 * (s - 1) + k) / 4 = s - 1 by omega, show (4 * (s - 1) + k) % 4 = k by omega]
theorem and1_01 (x : Int32) : (x &&& 1 = 0) ∨ (x &&& 1 = 1) := by
  have e : x = nI x.toBitVec.toNat := by
    show x = Int32.ofNat _
    rw [← Int32.toInt_inj]
    show x.toBitVec.toInt = (BitVec.ofNat 32 x.toBitVec.toNat).toInt
    rw [BitVec.ofNat_toNat, BitVec.setWidth_eq]
  rw [e, show (1 : Int32) = nI (2 ^ 1 - 1) from rfl, fa_mask]
  rcases (show x.toBitVec.toNat % 2 ^ 1 = 0 ∨ x.toBitVec.toNat % 2 ^ 1 = 1 by omega) with z | z <;> rw [z]
  · exact Or.inl rfl
  · exact Or.inr rfl
theorem l_kpA (m9 : Nat) : ∀ {X : XS} {I : Nat → Int32} {A : Nat → Nat → Int32} {L : Nat → Nat → Int64} {O : AH} {Q : AO → AH → Prop} {K : Nat → Int32} {B : Nat → Int64} {C : Nat → Int32} {r m a s0 s1 s2 s3 k : Nat} {tl v : Int32} (hK : ∀ c, c < 6 → 0 ≤ K c ∧ K c ≤ 4) (hr : r < 10) (hd : dgt m a s0 s1 s2 s3) (hf : digF C m a s0 s1 s2 s3) (hm : k + m9 = 4) (hv : tru v (∀ j, j < k → PA A K C r j)) (kk : ∀ v, tru v (∀ j, j < 4 → PA A K C r j) → AW X 139 139 [(0, .ref 0), (1, .ref 22), (2, .int (nI r)), (3, .ref 24), (4, .int (C 2)), (5, .int (C 3)), (6, .int tl), (7, .int v)] [] (hp I A L (kc K :: lc B :: cc C :: O)) 0 0 Q), AW X 139 41 [(0, .ref 0), (1, .ref 22), (2, .int (nI r)), (3, .ref 24), (4, .int (C 2)), (5, .int (C 3)), (6, .int tl), (7, .int v), (8, .int (nI (2 + k)))] [] (hp I A L (kc K :: lc B :: cc C :: O)) 0 0 Q := by
  induction m9 with
  | zero =>
    intro X I A L O Q K B C r m a s0 s1 s2 s3 k tl v hK hr hd hf hm hv kk
    refine a_iload q139_41 rfl ?_
    refine a_bipush (v := 6) q139_43 (by decide) ?_
    refine a_icmp_ge (tgt := 139) q139_45 (by decide) (fun zc45 => ?_) (fun zc45 => absurd (nI_le (show 6 ≤ 2 + k by omega) (by omega)) zc45)
    refine AW.pop_less (x := (8, _)) (lv' := [(0, _), (1, _), (2, _), (3, _), (4, _), (5, _), (6, _), (7, _)]) ?_
    exact kk v (by rw [show k = 4 by omega] at hv; exact hv)
  | succ m9 ih =>
    intro X I A L O Q K B C r m a s0 s1 s2 s3 k tl v hK hr hd hf hm hv kk
    have hk : k < 4 := by omega
    obtain ⟨s, hs, hfs⟩ := ex_s hd hf hk
    refine a_iload q139_41 rfl ?_
    refine a_bipush (v := 6) q139_43 (by decide) ?_
    refine a_icmp_ge (tgt := 139) q139_45 (by decide) (fun zc45 => absurd zc45 (nI_ge (show 2 + k < 6 by omega) (by decide))) (fun zc45 => ?_)
    refine a_aload_n (i := 1) q139_48 rfl rfl ?_
    refine a_aload_n (i := 3) q139_49 rfl rfl ?_
    refine a_iload q139_50 rfl ?_
    refine a_iald' q139_52 rfl (j := 2 + k) rfl (by omega) (by decide) ?_
    refine AW.ti hfs ?_
    refine a_iconst (v := 0) q139_53 (by decide) ?_
    refine a_iconst (v := 1) q139_54 (by decide) ?_
    refine a_cs4 q139_55 rfl ⟨rfl, rfl⟩ rfl ?_
    refine c_L_isOf hs (by decide) (by decide) ?_
    refine ck_r ?_
    refine a_istore (i := 9) (lv' := [(0, _), (1, _), (2, _), (3, _), (4, _), (5, _), (6, _), (7, _), (8, _), (9, _)]) q139_58 rfl rfl ?_
    refine AW.cut 92 (b2i (m_oo (VB A K) C k)) (fun zk92 => ?_) ?_
    · skip
      refine a_aload_n (i := 3) q139_60 rfl rfl ?_
      refine a_iload q139_61 rfl ?_
      refine a_iald' q139_63 rfl (j := 2 + k) rfl (by omega) (by decide) ?_
      refine AW.ti hfs ?_
      refine a_if_lt (tgt := 91) q139_64 (by decide) (fun zc64 => ?_) (fun zc64 => ?_)
      · skip
        refine a_iconst (v := 0) q139_91 (by decide) ?_
        exact cutv zk92 (b2i_f (fun zz => ((oo_kS hk hs hfs).mp zz).1 ((xI_neg hs).mp zc64)))
      · skip
        have zs : ¬ s = 0 := fun zz => zc64 ((xI_neg hs).mpr zz)
        refine a_aload_n (i := 0) q139_67 rfl rfl ?_
        refine a_bipush (v := 40) q139_68 (by decide) ?_
        refine a_aload_n (i := 3) q139_70 rfl rfl ?_
        refine a_iload q139_71 rfl ?_
        refine a_iald' q139_73 rfl (j := 2 + k) rfl (by omega) (by decide) ?_
        refine AW.ti hfs ?_
        refine a_iadd q139_74 ?_
        refine a_iald' q139_75 rfl (j := 40 + (s - 1)) (by rw [xI_e zs]; exact nI_add 40 _) (by omega) (by decide) ?_
        refine a_iload q139_76 rfl ?_
        refine a_iconst (v := 2) q139_78 (by decide) ?_
        refine a_isub q139_79 ?_
        refine AW.ti (show nI (2 + k) - 2 = nI k by rw [show (2 : Int32) = nI 2 from rfl, pk_sub (by omega), Nat.add_sub_cancel_left]) ?_
        refine a_ishr q139_80 ?_
        refine a_iconst (v := 1) q139_81 (by decide) ?_
        refine a_iand q139_82 ?_
        refine a_iconst (v := 1) q139_83 (by decide) ?_
        refine a_icmp_ne (tgt := 91) q139_84 (by decide) (fun zc84 => ?_) (fun zc84 => ?_)
        · skip
          refine a_iconst (v := 0) q139_91 (by decide) ?_
          exact cutv zk92 (b2i_f (fun zz => ((oo_kS hk hs hfs).mp zz).2 ((and1_01 _).resolve_right zc84)))
        · skip
          refine a_iconst (v := 1) q139_87 (by decide) ?_
          refine a_goto (tgt := 92) q139_88 (by decide) ?_
          exact cutv zk92 (b2i_t ((oo_kS hk hs hfs).mpr ⟨zs, fun zz => absurd (zz.symm.trans zc84) (by decide)⟩))
    refine a_istore (i := 10) (lv' := [(0, _), (1, _), (2, _), (3, _), (4, _), (5, _), (6, _), (7, _), (8, _), (9, _), (10, _)]) q139_92 rfl rfl ?_
    refine a_iload q139_94 rfl ?_
    refine AW.cut 130 (b2i ((r = 2 → ¬ m_dd (VB A K) C k) ∧ (r = 8 → ¬ m_oo (VB A K) C k))) (fun zk130 => ?_) ?_
    · skip
      refine a_iload_n (i := 2) q139_96 rfl rfl ?_
      refine a_iconst (v := 2) q139_97 (by decide) ?_
      refine a_icmp_ne (tgt := 114) q139_98 (by decide) (fun zc98 => ?_) (fun zc98 => ?_)
      · skip
        refine a_iload_n (i := 2) q139_114 rfl rfl ?_
        refine a_bipush (v := 8) q139_115 (by decide) ?_
        refine a_icmp_ne (tgt := 125) q139_117 (by decide) (fun zc117 => ?_) (fun zc117 => ?_)
        · skip
          refine a_iconst (v := 1) q139_125 (by decide) ?_
          refine a_goto (tgt := 130) q139_126 (by decide) ?_
          exact cutv zk130 (by have z2 : ¬ r = 2 := fun zz => zc98 (by rw [zz]; rfl); have z8 : ¬ r = 8 := fun zz => zc117 (by rw [zz]; rfl); exact (b2i_t ⟨fun zz => absurd zz z2, fun zz => absurd zz z8⟩))
        · skip
          refine a_iload q139_120 rfl ?_
          refine a_if_ne (tgt := 129) q139_122 (by decide) (fun zc122 => ?_) (fun zc122 => ?_)
          · skip
            refine a_iconst (v := 0) q139_129 (by decide) ?_
            exact cutv zk130 (by have z2 : ¬ r = 2 := fun zz => zc98 (by rw [zz]; rfl); have z8 : r = 8 := (nI_eq (a := r) (b := 8) (by omega) (by decide)).mp zc117; exact (b2i_f (fun zz => zz.2 z8 (b2i_nz.mp zc122))))
          · skip
            refine a_iconst (v := 1) q139_125 (by decide) ?_
            refine a_goto (tgt := 130) q139_126 (by decide) ?_
            exact cutv zk130 (by have z2 : ¬ r = 2 := fun zz => zc98 (by rw [zz]; rfl); have z8 : r = 8 := (nI_eq (a := r) (b := 8) (by omega) (by decide)).mp zc117; exact (b2i_t ⟨fun zz => absurd zz z2, fun _ => b2i_z.mp zc122⟩))
      · skip
        refine a_iload q139_101 rfl ?_
        refine a_if_ne (tgt := 110) q139_103 (by decide) (fun zc103 => ?_) (fun zc103 => ?_)
        · skip
          refine a_iconst (v := 0) q139_110 (by decide) ?_
          refine a_goto (tgt := 130) q139_111 (by decide) ?_
          exact cutv zk130 (by have z2 : r = 2 := (nI_eq (a := r) (b := 2) (by omega) (by decide)).mp zc98; exact (b2i_f (fun zz => zz.1 z2 ((dd_kS hK hs hfs).mpr (b2i_nz.mp zc103)))))
        · skip
          refine a_iconst (v := 1) q139_106 (by decide) ?_
          refine a_goto (tgt := 130) q139_107 (by decide) ?_
          exact cutv zk130 (by have z2 : r = 2 := (nI_eq (a := r) (b := 2) (by omega) (by decide)).mp zc98; exact (b2i_t ⟨fun _ zz => b2i_z.mp zc103 ((dd_kS (A := A) hK hs hfs).mp zz), fun zz => absurd (z2.symm.trans zz) (by decide)⟩))
    refine a_iand q139_130 ?_
    refine a_istore (i := 7) (lv' := [(0, _), (1, _), (2, _), (3, _), (4, _), (5, _), (6, _), (7, _), (8, _), (9, _), (10, _)]) q139_131 rfl rfl ?_
    refine a_iinc (v := nI ((2 + k) + 1)) (lv' := [(0, _), (1, _), (2, _), (3, _), (4, _), (5, _), (6, _), (7, _), (8, _), (9, _), (10, _)]) q139_133 rfl rfl (nI_1 ((2 + k))) rfl ?_
    refine a_goto (tgt := 41) q139_136 (by decide) ?_
    refine AW.pop_less (x := (10, _)) (lv' := [(0, _), (1, _), (2, _), (3, _), (4, _), (5, _), (6, _), (7, _), (8, _), (9, _)]) ?_
    refine AW.pop_less (x := (9, _)) (lv' := [(0, _), (1, _), (2, _), (3, _), (4, _), (5, _), (6, _), (7, _), (8, _)]) ?_
    exact ih hK hr hd hf (show k + 1 + m9 = 4 by omega) (tru_c (tru_and hv) ⟨fun zz j hj => by
        rcases Nat.lt_or_ge j k with y | y
        · exact zz.1 j y
        · rw [show j = k by omega]; exact zz.2, fun zz => ⟨fun j hj => zz j (by omega), zz k (by omega)⟩⟩) kk

theorem l_kpB (m : Nat) : ∀ {X : XS} {I : Nat → Int32} {A : Nat → Nat → Int32} {L : Nat → Nat → Int64} {O : AH} {Q : AO → AH → Prop} {K : Nat → Int32} {B : Nat → Int64} {C : Nat → Int32} {r e : Nat} {tl v : Int32} (hr : r < 10) (hm : e + m = 6) (hv : tru v ((∀ j, j < 4 → PA A K C r j) ∧ (r = 9 → ∀ j, j < e → wshC (VB A K) C j))) (kk : ∀ v, tru v ((∀ j, j < 4 → PA A K C r j) ∧ (r = 9 → ∀ e, e < 6 → wshC (VB A K) C e)) → AW X 139 211 [(0, .ref 0), (1, .ref 22), (2, .int (nI r)), (3, .ref 24), (4, .int (C 2)), (5, .int (C 3)), (6, .int tl), (7, .int v)] [] (hp I A L (kc K :: lc B :: cc C :: O)) 0 0 Q), AW X 139 142 [(0, .ref 0), (1, .ref 22), (2, .int (nI r)), (3, .ref 24), (4, .int (C 2)), (5, .int (C 3)), (6, .int tl), (7, .int v), (8, .int (nI e))] [] (hp I A L (kc K :: lc B :: cc C :: O)) 0 0 Q := by
  induction m with
  | zero =>
    intro X I A L O Q K B C r e tl v hr hm hv kk
    refine a_iload q139_142 rfl ?_
    refine a_bipush (v := 6) q139_144 (by decide) ?_
    refine a_icmp_ge (tgt := 211) q139_146 (by decide) (fun zc146 => ?_) (fun zc146 => absurd (nI_le (show 6 ≤ e by omega) (by omega)) zc146)
    refine AW.pop_less (x := (8, _)) (lv' := [(0, _), (1, _), (2, _), (3, _), (4, _), (5, _), (6, _), (7, _)]) ?_
    exact kk v (tru_c hv ⟨fun zz => ⟨zz.1, fun y9 j hj => zz.2 y9 j (by omega)⟩, fun zz => ⟨zz.1, fun y9 j hj => zz.2 y9 j (by omega)⟩⟩)
  | succ m ih =>
    intro X I A L O Q K B C r e tl v hr hm hv kk
    refine a_iload q139_142 rfl ?_
    refine a_bipush (v := 6) q139_144 (by decide) ?_
    refine a_icmp_ge (tgt := 211) q139_146 (by decide) (fun zc146 => absurd zc146 (nI_ge (show e < 6 by omega) (by decide))) (fun zc146 => ?_)
    refine a_iload_n (i := 2) q139_149 rfl rfl ?_
    refine a_bipush (v := 9) q139_150 (by decide) ?_
    refine a_icmp_ne (tgt := 211) q139_152 (by decide) (fun zc152 => ?_) (fun zc152 => ?_)
    · skip
      refine AW.pop_less (x := (8, _)) (lv' := [(0, _), (1, _), (2, _), (3, _), (4, _), (5, _), (6, _), (7, _)]) ?_
      exact kk v (tru_c hv ⟨fun zz => ⟨zz.1, fun y9 => absurd (by rw [y9]; rfl) zc152⟩, fun zz => ⟨zz.1, fun y9 => absurd (by rw [y9]; rfl) zc152⟩⟩)
    · skip
      refine a_iload q139_155 rfl ?_
      refine AW.cut 202 (b2i (wshC (VB A K) C e)) (fun zk202 => ?_) ?_
      · skip
        refine a_aload_n (i := 0) q139_157 rfl rfl ?_
        refine a_bipush (v := 30) q139_158 (by decide) ?_
        refine a_iload q139_160 rfl ?_
        refine a_iadd q139_162 ?_
        refine a_iald' q139_163 rfl (j := 30 + e) (nI_add 30 e) (by omega) (by decide) ?_
        refine a_if_eq (tgt := 197) q139_164 (by decide) (fun zc164 => ?_) (fun zc164 => ?_)
        · skip
          refine a_iconst (v := 1) q139_197 (by decide) ?_
          refine a_goto (tgt := 202) q139_198 (by decide) ?_
          exact cutv zk202 (b2i_t (Or.inl zc164))
        · skip
          refine a_iload q139_167 rfl ?_
          refine a_iload q139_169 rfl ?_
          refine a_icmp_eq (tgt := 197) q139_171 (by decide) (fun zc171 => ?_) (fun zc171 => ?_)
          · skip
            refine a_iconst (v := 1) q139_197 (by decide) ?_
            refine a_goto (tgt := 202) q139_198 (by decide) ?_
            exact cutv zk202 (b2i_t (Or.inr (Or.inl zc171)))
          · skip
            refine a_iload q139_174 rfl ?_
            refine a_iload q139_176 rfl ?_
            refine a_icmp_eq (tgt := 197) q139_178 (by decide) (fun zc178 => ?_) (fun zc178 => ?_)
            · skip
              refine a_iconst (v := 1) q139_197 (by decide) ?_
              refine a_goto (tgt := 202) q139_198 (by decide) ?_
              exact cutv zk202 (b2i_t (Or.inr (Or.inr (Or.inl zc178))))
            · skip
              refine a_aload_n (i := 3) q139_181 rfl rfl ?_
              refine a_iconst (v := 4) q139_182 (by decide) ?_
              refine a_iald' q139_183 rfl (j := 4) rfl (by decide) (by decide) ?_
              refine a_iload q139_184 rfl ?_
              refine a_icmp_eq (tgt := 197) q139_186 (by decide) (fun zc186 => ?_) (fun zc186 => ?_)
              · skip
                refine a_iconst (v := 1) q139_197 (by decide) ?_
                refine a_goto (tgt := 202) q139_198 (by decide) ?_
                exact cutv zk202 (b2i_t (Or.inr (Or.inr (Or.inr (Or.inl zc186)))))
              · skip
                refine a_aload_n (i := 3) q139_189 rfl rfl ?_
                refine a_iconst (v := 5) q139_190 (by decide) ?_
                refine a_iald' q139_191 rfl (j := 5) rfl (by decide) (by decide) ?_
                refine a_iload q139_192 rfl ?_
                refine a_icmp_ne (tgt := 201) q139_194 (by decide) (fun zc194 => ?_) (fun zc194 => ?_)
                · skip
                  refine a_iconst (v := 0) q139_201 (by decide) ?_
                  exact cutv zk202 (b2i_f (fun zz => zz.elim zc164 (fun zz => zz.elim zc171 (fun zz => zz.elim zc178 (fun zz => zz.elim zc186 zc194)))))
                · skip
                  refine a_iconst (v := 1) q139_197 (by decide) ?_
                  refine a_goto (tgt := 202) q139_198 (by decide) ?_
                  exact cutv zk202 (b2i_t (Or.inr (Or.inr (Or.inr (Or.inr zc194)))))
      refine a_iand q139_202 ?_
      refine a_istore (i := 7) (lv' := [(0, _), (1, _), (2, _), (3, _), (4, _), (5, _), (6, _), (7, _), (8, _)]) q139_203 rfl rfl ?_
      refine a_iinc (v := nI (e + 1)) (lv' := [(0, _), (1, _), (2, _), (3, _), (4, _), (5, _), (6, _), (7, _), (8, _)]) q139_205 rfl rfl (nI_1 (e)) rfl ?_
      refine a_goto (tgt := 142) q139_208 (by decide) ?_
      
      exact ih hr (show e + 1 + m = 6 by omega) (tru_c (tru_and hv) ⟨fun zz => ⟨zz.1.1, fun y9 j hj => by
          rcases Nat.lt_or_ge j e with y | y
          · exact zz.1.2 y9 j y
          · rw [show j = e by omega]; exact zz.2⟩, fun zz => ⟨⟨zz.1, fun y9 j hj => zz.2 y9 j (by omega)⟩, zz.2 ((nI_eq (a := r) (b := 9) (by omega) (by decide)).mp zc152) e (by omega)⟩⟩) kk

theorem kp_t1 {X : XS} {I : Nat → Int32} {A : Nat → Nat → Int32} {L : Nat → Nat → Int64} {O : AH} {Q : AO → AH → Prop} {K : Nat → Int32} {B : Nat → Int64} {C : Nat → Int32} {m a s0 s1 s2 s3 : Nat} {tl v : Int32} (hK : ∀ c, c < 6 → 0 ≤ K c ∧ K c ≤ 4) (hd : dgt m a s0 s1 s2 s3) (hf : digF C m a s0 s1 s2 s3) (htl : tru tl (TALL A K C)) (hv : tru v ((∀ j, j < 4 → PA A K C 1 j) ∧ ((1 : Nat) = 9 → ∀ e, e < 6 → wshC (VB A K) C e))) (hq : ∀ v, tru v (kp A K C 1) → Q (.inl (some (.int v))) (hp I A L (kc K :: lc B :: cc C :: O))) : AW X 139 211 [(0, .ref 0), (1, .ref 22), (2, .int (nI 1)), (3, .ref 24), (4, .int (C 2)), (5, .int (C 3)), (6, .int tl), (7, .int v)] [] (hp I A L (kc K :: lc B :: cc C :: O)) 0 0 Q := by
  refine a_iload_n (i := 2) q139_211 rfl rfl ?_
  refine a_iconst (v := 2) q139_212 (by decide) ?_
  refine a_icmp_eq (tgt := 222) q139_213 (by decide) (fun zc213 => absurd zc213 (by decide)) (fun zc213 => ?_)
  refine a_iload_n (i := 2) q139_216 rfl rfl ?_
  refine a_bipush (v := 8) q139_217 (by decide) ?_
  refine a_icmp_ne (tgt := 225) q139_219 (by decide) (fun zc219 => ?_) (fun zc219 => absurd zc219 (by decide))
  refine a_iload_n (i := 2) q139_225 rfl rfl ?_
  refine a_bipush (v := 9) q139_226 (by decide) ?_
  refine a_icmp_ne (tgt := 281) q139_228 (by decide) (fun zc228 => ?_) (fun zc228 => absurd zc228 (by decide))
  refine a_iload_n (i := 2) q139_281 rfl rfl ?_
  refine a_iconst (v := 5) q139_282 (by decide) ?_
  refine a_icmp_ge (tgt := 387) q139_283 (by decide) (fun zc283 => absurd zc283 (by decide)) (fun zc283 => ?_)
  refine AW.cut 307 (b2i (m_grp (VB A K) C ∧ TALL A K C)) (fun zk307 => ?_) ?_
  · skip
    refine a_aload_n (i := 1) q139_286 rfl rfl ?_
    refine a_iload q139_287 rfl ?_
    refine AW.ti hf.2.2.1 ?_
    refine a_iconst (v := 3) q139_289 (by decide) ?_
    refine a_iconst (v := 2) q139_290 (by decide) ?_
    refine a_cs4 q139_291 rfl ⟨rfl, rfl⟩ rfl ?_
    refine c_L_isOf hd.2.2.1 (by decide) (by decide) ?_
    refine ck_r ?_
    refine a_if_eq (tgt := 306) q139_294 (by decide) (fun zc294 => ?_) (fun zc294 => ?_)
    · skip
      refine a_iconst (v := 0) q139_306 (by decide) ?_
      exact cutv zk307 (b2i_f (fun zz => b2i_z.mp zc294 (by have y := zz.1; unfold m_grp at y; rw [vb_of (A := A) (K := K) (k := 0) hd.2.2.1 hf.2.2.1] at y; exact y)))
    · skip
      refine a_iload q139_297 rfl ?_
      refine a_if_eq (tgt := 306) q139_299 (by decide) (fun zc299 => ?_) (fun zc299 => ?_)
      · skip
        refine a_iconst (v := 0) q139_306 (by decide) ?_
        exact cutv zk307 (b2i_f (fun zz => htl.2.mpr zz.2 zc299))
      · skip
        refine a_iconst (v := 1) q139_302 (by decide) ?_
        refine a_goto (tgt := 307) q139_303 (by decide) ?_
        exact cutv zk307 (b2i_t ⟨by unfold m_grp; rw [vb_of (A := A) (K := K) (k := 0) hd.2.2.1 hf.2.2.1]; exact b2i_nz.mp zc294, htl.2.mp zc299⟩)
  refine a_istore (i := 8) (lv' := [(0, _), (1, _), (2, _), (3, _), (4, _), (5, _), (6, _), (7, _), (8, _)]) q139_307 rfl rfl ?_
  refine a_iload_n (i := 2) q139_309 rfl rfl ?_
  refine a_iconst (v := 1) q139_310 (by decide) ?_
  refine a_icmp_ne (tgt := 332) q139_311 (by decide) (fun zc311 => absurd zc311 (by decide)) (fun zc311 => ?_)
  refine a_iload q139_314 rfl ?_
  refine a_if_ge (tgt := 324) q139_316 (by decide) (fun zc316 => ?_) (fun zc316 => ?_)
  · skip
    refine a_iconst (v := 1) q139_324 (by decide) ?_
    refine a_goto (tgt := 386) q139_325 (by decide) ?_
    refine a_ireturn q139_386 (nr_bool rfl (by decide)) ?_
    exact hq 1 (tru_1 (show ¬ (C 2 < 0 ∧ C 3 < 0) from fun zz => absurd zz.1 (i_nlt.mpr zc316)))
  · skip
    refine a_iload q139_319 rfl ?_
    refine a_if_lt (tgt := 328) q139_321 (by decide) (fun zc321 => ?_) (fun zc321 => ?_)
    · skip
      refine a_iconst (v := 0) q139_328 (by decide) ?_
      refine a_goto (tgt := 386) q139_329 (by decide) ?_
      refine a_ireturn q139_386 (nr_bool rfl (by decide)) ?_
      exact hq 0 (tru_0 (show ¬ ¬ (C 2 < 0 ∧ C 3 < 0) from fun zz => zz ⟨i_nle.mp zc316, zc321⟩))
    · skip
      refine a_iconst (v := 1) q139_324 (by decide) ?_
      refine a_goto (tgt := 386) q139_325 (by decide) ?_
      refine a_ireturn q139_386 (nr_bool rfl (by decide)) ?_
      exact hq 1 (tru_1 (show ¬ (C 2 < 0 ∧ C 3 < 0) from fun zz => zc321 zz.2))
theorem kp_t2 {X : XS} {I : Nat → Int32} {A : Nat → Nat → Int32} {L : Nat → Nat → Int64} {O : AH} {Q : AO → AH → Prop} {K : Nat → Int32} {B : Nat → Int64} {C : Nat → Int32} {m a s0 s1 s2 s3 : Nat} {tl v : Int32} (hK : ∀ c, c < 6 → 0 ≤ K c ∧ K c ≤ 4) (hd : dgt m a s0 s1 s2 s3) (hf : digF C m a s0 s1 s2 s3) (htl : tru tl (TALL A K C)) (hv : tru v ((∀ j, j < 4 → PA A K C 2 j) ∧ ((2 : Nat) = 9 → ∀ e, e < 6 → wshC (VB A K) C e))) (hq : ∀ v, tru v (kp A K C 2) → Q (.inl (some (.int v))) (hp I A L (kc K :: lc B :: cc C :: O))) : AW X 139 211 [(0, .ref 0), (1, .ref 22), (2, .int (nI 2)), (3, .ref 24), (4, .int (C 2)), (5, .int (C 3)), (6, .int tl), (7, .int v)] [] (hp I A L (kc K :: lc B :: cc C :: O)) 0 0 Q := by
  refine a_iload_n (i := 2) q139_211 rfl rfl ?_
  refine a_iconst (v := 2) q139_212 (by decide) ?_
  refine a_icmp_eq (tgt := 222) q139_213 (by decide) (fun zc213 => ?_) (fun zc213 => absurd (by decide) zc213)
  refine a_iload q139_222 rfl ?_
  refine a_ireturn q139_224 (nr_bool rfl hv.1) ?_
  refine hq v (tru_c hv ?_)
  show _ ↔ ¬ m_dead (VB A K) C
  exact ⟨fun zz y => by
      rcases y with ((y | y) | y) | y
      · exact (zz.1 0 (by decide)).1 rfl y
      · exact (zz.1 1 (by decide)).1 rfl y
      · exact (zz.1 2 (by decide)).1 rfl y
      · exact (zz.1 3 (by decide)).1 rfl y, fun zz => ⟨fun j hj => ⟨fun _ y => zz (by
      rcases (show j = 0 ∨ j = 1 ∨ j = 2 ∨ j = 3 by omega) with rfl | rfl | rfl | rfl
      · exact Or.inl (Or.inl (Or.inl y))
      · exact Or.inl (Or.inl (Or.inr y))
      · exact Or.inl (Or.inr y)
      · exact Or.inr y), fun y => absurd y (by decide)⟩, fun y => absurd y (by decide)⟩⟩
theorem kp_t8 {X : XS} {I : Nat → Int32} {A : Nat → Nat → Int32} {L : Nat → Nat → Int64} {O : AH} {Q : AO → AH → Prop} {K : Nat → Int32} {B : Nat → Int64} {C : Nat → Int32} {m a s0 s1 s2 s3 : Nat} {tl v : Int32} (hK : ∀ c, c < 6 → 0 ≤ K c ∧ K c ≤ 4) (hd : dgt m a s0 s1 s2 s3) (hf : digF C m a s0 s1 s2 s3) (htl : tru tl (TALL A K C)) (hv : tru v ((∀ j, j < 4 → PA A K C 8 j) ∧ ((8 : Nat) = 9 → ∀ e, e < 6 → wshC (VB A K) C e))) (hq : ∀ v, tru v (kp A K C 8) → Q (.inl (some (.int v))) (hp I A L (kc K :: lc B :: cc C :: O))) : AW X 139 211 [(0, .ref 0), (1, .ref 22), (2, .int (nI 8)), (3, .ref 24), (4, .int (C 2)), (5, .int (C 3)), (6, .int tl), (7, .int v)] [] (hp I A L (kc K :: lc B :: cc C :: O)) 0 0 Q := by
  refine a_iload_n (i := 2) q139_211 rfl rfl ?_
  refine a_iconst (v := 2) q139_212 (by decide) ?_
  refine a_icmp_eq (tgt := 222) q139_213 (by decide) (fun zc213 => absurd zc213 (by decide)) (fun zc213 => ?_)
  refine a_iload_n (i := 2) q139_216 rfl rfl ?_
  refine a_bipush (v := 8) q139_217 (by decide) ?_
  refine a_icmp_ne (tgt := 225) q139_219 (by decide) (fun zc219 => absurd zc219 (by decide)) (fun zc219 => ?_)
  refine a_iload q139_222 rfl ?_
  refine a_ireturn q139_224 (nr_bool rfl hv.1) ?_
  refine hq v (tru_c hv ?_)
  show _ ↔ ¬ m_off (VB A K) C
  exact ⟨fun zz y => by
      rcases y with ((y | y) | y) | y
      · exact (zz.1 0 (by decide)).2 rfl y
      · exact (zz.1 1 (by decide)).2 rfl y
      · exact (zz.1 2 (by decide)).2 rfl y
      · exact (zz.1 3 (by decide)).2 rfl y, fun zz => ⟨fun j hj => ⟨fun y => absurd y (by decide), fun _ y => zz (by
      rcases (show j = 0 ∨ j = 1 ∨ j = 2 ∨ j = 3 by omega) with rfl | rfl | rfl | rfl
      · exact Or.inl (Or.inl (Or.inl y))
      · exact Or.inl (Or.inl (Or.inr y))
      · exact Or.inl (Or.inr y)
      · exact Or.inr y)⟩, fun y => absurd y (by decide)⟩⟩
theorem kp_t3 {X : XS} {I : Nat → Int32} {A : Nat → Nat → Int32} {L : Nat → Nat → Int64} {O : AH} {Q : AO → AH → Prop} {K : Nat → Int32} {B : Nat → Int64} {C : Nat → Int32} {m a s0 s1 s2 s3 : Nat} {tl v : Int32} (hK : ∀ c, c < 6 → 0 ≤ K c ∧ K c ≤ 4) (hd : dgt m a s0 s1 s2 s3) (hf : digF C m a s0 s1 s2 s3) (htl : tru tl (TALL A K C)) (hv : tru v ((∀ j, j < 4 → PA A K C 3 j) ∧ ((3 : Nat) = 9 → ∀ e, e < 6 → wshC (VB A K) C e))) (hq : ∀ v, tru v (kp A K C 3) → Q (.inl (some (.int v))) (hp I A L (kc K :: lc B :: cc C :: O))) : AW X 139 211 [(0, .ref 0), (1, .ref 22), (2, .int (nI 3)), (3, .ref 24), (4, .int (C 2)), (5, .int (C 3)), (6, .int tl), (7, .int v)] [] (hp I A L (kc K :: lc B :: cc C :: O)) 0 0 Q := by
  refine a_iload_n (i := 2) q139_211 rfl rfl ?_
  refine a_iconst (v := 2) q139_212 (by decide) ?_
  refine a_icmp_eq (tgt := 222) q139_213 (by decide) (fun zc213 => absurd zc213 (by decide)) (fun zc213 => ?_)
  refine a_iload_n (i := 2) q139_216 rfl rfl ?_
  refine a_bipush (v := 8) q139_217 (by decide) ?_
  refine a_icmp_ne (tgt := 225) q139_219 (by decide) (fun zc219 => ?_) (fun zc219 => absurd zc219 (by decide))
  refine a_iload_n (i := 2) q139_225 rfl rfl ?_
  refine a_bipush (v := 9) q139_226 (by decide) ?_
  refine a_icmp_ne (tgt := 281) q139_228 (by decide) (fun zc228 => ?_) (fun zc228 => absurd zc228 (by decide))
  refine a_iload_n (i := 2) q139_281 rfl rfl ?_
  refine a_iconst (v := 5) q139_282 (by decide) ?_
  refine a_icmp_ge (tgt := 387) q139_283 (by decide) (fun zc283 => absurd zc283 (by decide)) (fun zc283 => ?_)
  refine AW.cut 307 (b2i (m_grp (VB A K) C ∧ TALL A K C)) (fun zk307 => ?_) ?_
  · skip
    refine a_aload_n (i := 1) q139_286 rfl rfl ?_
    refine a_iload q139_287 rfl ?_
    refine AW.ti hf.2.2.1 ?_
    refine a_iconst (v := 3) q139_289 (by decide) ?_
    refine a_iconst (v := 2) q139_290 (by decide) ?_
    refine a_cs4 q139_291 rfl ⟨rfl, rfl⟩ rfl ?_
    refine c_L_isOf hd.2.2.1 (by decide) (by decide) ?_
    refine ck_r ?_
    refine a_if_eq (tgt := 306) q139_294 (by decide) (fun zc294 => ?_) (fun zc294 => ?_)
    · skip
      refine a_iconst (v := 0) q139_306 (by decide) ?_
      exact cutv zk307 (b2i_f (fun zz => b2i_z.mp zc294 (by have y := zz.1; unfold m_grp at y; rw [vb_of (A := A) (K := K) (k := 0) hd.2.2.1 hf.2.2.1] at y; exact y)))
    · skip
      refine a_iload q139_297 rfl ?_
      refine a_if_eq (tgt := 306) q139_299 (by decide) (fun zc299 => ?_) (fun zc299 => ?_)
      · skip
        refine a_iconst (v := 0) q139_306 (by decide) ?_
        exact cutv zk307 (b2i_f (fun zz => htl.2.mpr zz.2 zc299))
      · skip
        refine a_iconst (v := 1) q139_302 (by decide) ?_
        refine a_goto (tgt := 307) q139_303 (by decide) ?_
        exact cutv zk307 (b2i_t ⟨by unfold m_grp; rw [vb_of (A := A) (K := K) (k := 0) hd.2.2.1 hf.2.2.1]; exact b2i_nz.mp zc294, htl.2.mp zc299⟩)
  refine a_istore (i := 8) (lv' := [(0, _), (1, _), (2, _), (3, _), (4, _), (5, _), (6, _), (7, _), (8, _)]) q139_307 rfl rfl ?_
  refine a_iload_n (i := 2) q139_309 rfl rfl ?_
  refine a_iconst (v := 1) q139_310 (by decide) ?_
  refine a_icmp_ne (tgt := 332) q139_311 (by decide) (fun zc311 => ?_) (fun zc311 => absurd zc311 (by decide))
  refine a_iload_n (i := 2) q139_332 rfl rfl ?_
  refine a_iconst (v := 3) q139_333 (by decide) ?_
  refine a_icmp_ne (tgt := 370) q139_334 (by decide) (fun zc334 => absurd zc334 (by decide)) (fun zc334 => ?_)
  refine a_aload_n (i := 3) q139_337 rfl rfl ?_
  refine a_iconst (v := 5) q139_338 (by decide) ?_
  refine a_iald' q139_339 rfl (j := 5) rfl (by omega) (by decide) ?_
  refine a_if_lt (tgt := 362) q139_340 (by decide) (fun zc340 => ?_) (fun zc340 => ?_)
  · skip
    refine a_iconst (v := 1) q139_362 (by decide) ?_
    refine a_goto (tgt := 386) q139_363 (by decide) ?_
    refine a_ireturn q139_386 (nr_bool rfl (by decide)) ?_
    exact hq 1 (tru_1 (show ¬ (0 ≤ C 5 ∧ ¬ (m_of (VB A K) C 3 = 4 ∧ C 0 = 2)) from fun zz => absurd zc340 (i_nlt.mpr zz.1)))
  · skip
    refine a_aload_n (i := 1) q139_343 rfl rfl ?_
    refine a_aload_n (i := 3) q139_344 rfl rfl ?_
    refine a_iconst (v := 5) q139_345 (by decide) ?_
    refine a_iald' q139_346 rfl (j := 5) rfl (by omega) (by decide) ?_
    refine AW.ti hf.2.2.2.2.2 ?_
    refine a_iconst (v := 4) q139_347 (by decide) ?_
    refine a_iconst (v := 4) q139_348 (by decide) ?_
    refine a_cs4 q139_349 rfl ⟨rfl, rfl⟩ rfl ?_
    refine c_L_isOf hd.2.2.2.2.2 (by decide) (by decide) ?_
    refine ck_r ?_
    refine a_if_eq (tgt := 366) q139_352 (by decide) (fun zc352 => ?_) (fun zc352 => ?_)
    · skip
      refine a_iconst (v := 0) q139_366 (by decide) ?_
      refine a_goto (tgt := 386) q139_367 (by decide) ?_
      refine a_ireturn q139_386 (nr_bool rfl (by decide)) ?_
      exact hq 0 (tru_0 (show ¬ ¬ (0 ≤ C 5 ∧ ¬ (m_of (VB A K) C 3 = 4 ∧ C 0 = 2)) from fun zz => zz ⟨i_nlt.mp zc340, fun y => b2i_z.mp zc352 (by have y1 := y.1; rw [vb_of (A := A) (K := K) (k := 3) hd.2.2.2.2.2 hf.2.2.2.2.2] at y1; exact Or.inl y1)⟩))
    · skip
      refine a_aload_n (i := 3) q139_355 rfl rfl ?_
      refine a_iconst (v := 0) q139_356 (by decide) ?_
      refine a_iald' q139_357 rfl (j := 0) rfl (by omega) (by decide) ?_
      refine a_iconst (v := 2) q139_358 (by decide) ?_
      refine a_icmp_ne (tgt := 366) q139_359 (by decide) (fun zc359 => ?_) (fun zc359 => ?_)
      · skip
        refine a_iconst (v := 0) q139_366 (by decide) ?_
        refine a_goto (tgt := 386) q139_367 (by decide) ?_
        refine a_ireturn q139_386 (nr_bool rfl (by decide)) ?_
        exact hq 0 (tru_0 (show ¬ ¬ (0 ≤ C 5 ∧ ¬ (m_of (VB A K) C 3 = 4 ∧ C 0 = 2)) from fun zz => zz ⟨i_nlt.mp zc340, fun y => zc359 y.2⟩))
      · skip
        refine a_iconst (v := 1) q139_362 (by decide) ?_
        refine a_goto (tgt := 386) q139_363 (by decide) ?_
        refine a_ireturn q139_386 (nr_bool rfl (by decide)) ?_
        exact hq 1 (tru_1 (show ¬ (0 ≤ C 5 ∧ ¬ (m_of (VB A K) C 3 = 4 ∧ C 0 = 2)) from fun zz => zz.2 ⟨by rw [vb_of (A := A) (K := K) (k := 3) hd.2.2.2.2.2 hf.2.2.2.2.2]; have y := b2i_nz.mp zc352; rw [or_self] at y; exact y, zc359⟩))
theorem kp_t4 {X : XS} {I : Nat → Int32} {A : Nat → Nat → Int32} {L : Nat → Nat → Int64} {O : AH} {Q : AO → AH → Prop} {K : Nat → Int32} {B : Nat → Int64} {C : Nat → Int32} {m a s0 s1 s2 s3 : Nat} {tl v : Int32} (hK : ∀ c, c < 6 → 0 ≤ K c ∧ K c ≤ 4) (hd : dgt m a s0 s1 s2 s3) (hf : digF C m a s0 s1 s2 s3) (htl : tru tl (TALL A K C)) (hv : tru v ((∀ j, j < 4 → PA A K C 4 j) ∧ ((4 : Nat) = 9 → ∀ e, e < 6 → wshC (VB A K) C e))) (hq : ∀ v, tru v (kp A K C 4) → Q (.inl (some (.int v))) (hp I A L (kc K :: lc B :: cc C :: O))) : AW X 139 211 [(0, .ref 0), (1, .ref 22), (2, .int (nI 4)), (3, .ref 24), (4, .int (C 2)), (5, .int (C 3)), (6, .int tl), (7, .int v)] [] (hp I A L (kc K :: lc B :: cc C :: O)) 0 0 Q := by
  refine a_iload_n (i := 2) q139_211 rfl rfl ?_
  refine a_iconst (v := 2) q139_212 (by decide) ?_
  refine a_icmp_eq (tgt := 222) q139_213 (by decide) (fun zc213 => absurd zc213 (by decide)) (fun zc213 => ?_)
  refine a_iload_n (i := 2) q139_216 rfl rfl ?_
  refine a_bipush (v := 8) q139_217 (by decide) ?_
  refine a_icmp_ne (tgt := 225) q139_219 (by decide) (fun zc219 => ?_) (fun zc219 => absurd zc219 (by decide))
  refine a_iload_n (i := 2) q139_225 rfl rfl ?_
  refine a_bipush (v := 9) q139_226 (by decide) ?_
  refine a_icmp_ne (tgt := 281) q139_228 (by decide) (fun zc228 => ?_) (fun zc228 => absurd zc228 (by decide))
  refine a_iload_n (i := 2) q139_281 rfl rfl ?_
  refine a_iconst (v := 5) q139_282 (by decide) ?_
  refine a_icmp_ge (tgt := 387) q139_283 (by decide) (fun zc283 => absurd zc283 (by decide)) (fun zc283 => ?_)
  refine AW.cut 307 (b2i (m_grp (VB A K) C ∧ TALL A K C)) (fun zk307 => ?_) ?_
  · skip
    refine a_aload_n (i := 1) q139_286 rfl rfl ?_
    refine a_iload q139_287 rfl ?_
    refine AW.ti hf.2.2.1 ?_
    refine a_iconst (v := 3) q139_289 (by decide) ?_
    refine a_iconst (v := 2) q139_290 (by decide) ?_
    refine a_cs4 q139_291 rfl ⟨rfl, rfl⟩ rfl ?_
    refine c_L_isOf hd.2.2.1 (by decide) (by decide) ?_
    refine ck_r ?_
    refine a_if_eq (tgt := 306) q139_294 (by decide) (fun zc294 => ?_) (fun zc294 => ?_)
    · skip
      refine a_iconst (v := 0) q139_306 (by decide) ?_
      exact cutv zk307 (b2i_f (fun zz => b2i_z.mp zc294 (by have y := zz.1; unfold m_grp at y; rw [vb_of (A := A) (K := K) (k := 0) hd.2.2.1 hf.2.2.1] at y; exact y)))
    · skip
      refine a_iload q139_297 rfl ?_
      refine a_if_eq (tgt := 306) q139_299 (by decide) (fun zc299 => ?_) (fun zc299 => ?_)
      · skip
        refine a_iconst (v := 0) q139_306 (by decide) ?_
        exact cutv zk307 (b2i_f (fun zz => htl.2.mpr zz.2 zc299))
      · skip
        refine a_iconst (v := 1) q139_302 (by decide) ?_
        refine a_goto (tgt := 307) q139_303 (by decide) ?_
        exact cutv zk307 (b2i_t ⟨by unfold m_grp; rw [vb_of (A := A) (K := K) (k := 0) hd.2.2.1 hf.2.2.1]; exact b2i_nz.mp zc294, htl.2.mp zc299⟩)
  refine a_istore (i := 8) (lv' := [(0, _), (1, _), (2, _), (3, _), (4, _), (5, _), (6, _), (7, _), (8, _)]) q139_307 rfl rfl ?_
  refine a_iload_n (i := 2) q139_309 rfl rfl ?_
  refine a_iconst (v := 1) q139_310 (by decide) ?_
  refine a_icmp_ne (tgt := 332) q139_311 (by decide) (fun zc311 => ?_) (fun zc311 => absurd zc311 (by decide))
  refine a_iload_n (i := 2) q139_332 rfl rfl ?_
  refine a_iconst (v := 3) q139_333 (by decide) ?_
  refine a_icmp_ne (tgt := 370) q139_334 (by decide) (fun zc334 => ?_) (fun zc334 => absurd zc334 (by decide))
  refine a_aload_n (i := 3) q139_370 rfl rfl ?_
  refine a_iconst (v := 0) q139_371 (by decide) ?_
  refine a_iald' q139_372 rfl (j := 0) rfl (by omega) (by decide) ?_
  refine a_if_ne (tgt := 381) q139_373 (by decide) (fun zc373 => ?_) (fun zc373 => ?_)
  · skip
    refine a_iconst (v := 1) q139_381 (by decide) ?_
    refine a_goto (tgt := 386) q139_382 (by decide) ?_
    refine a_ireturn q139_386 (nr_bool rfl (by decide)) ?_
    exact hq 1 (tru_1 (show ¬ m_b4 (VB A K) C from fun zz => zc373 zz.1))
  · skip
    refine a_iload q139_376 rfl ?_
    refine a_if_eq (tgt := 385) q139_378 (by decide) (fun zc378 => ?_) (fun zc378 => ?_)
    · skip
      refine a_iconst (v := 0) q139_385 (by decide) ?_
      refine a_ireturn q139_386 (nr_bool rfl (by decide)) ?_
      exact hq 0 (tru_0 (show ¬ ¬ m_b4 (VB A K) C from fun zz => zz ⟨zc373, b2i_z.mp zc378⟩))
    · skip
      refine a_iconst (v := 1) q139_381 (by decide) ?_
      refine a_goto (tgt := 386) q139_382 (by decide) ?_
      refine a_ireturn q139_386 (nr_bool rfl (by decide)) ?_
      exact hq 1 (tru_1 (show ¬ m_b4 (VB A K) C from fun zz => zz.2 (b2i_nz.mp zc378)))
theorem kp_t5 {X : XS} {I : Nat → Int32} {A : Nat → Nat → Int32} {L : Nat → Nat → Int64} {O : AH} {Q : AO → AH → Prop} {K : Nat → Int32} {B : Nat → Int64} {C : Nat → Int32} {m a s0 s1 s2 s3 : Nat} {tl v : Int32} (hK : ∀ c, c < 6 → 0 ≤ K c ∧ K c ≤ 4) (hd : dgt m a s0 s1 s2 s3) (hf : digF C m a s0 s1 s2 s3) (htl : tru tl (TALL A K C)) (hv : tru v ((∀ j, j < 4 → PA A K C 5 j) ∧ ((5 : Nat) = 9 → ∀ e, e < 6 → wshC (VB A K) C e))) (hq : ∀ v, tru v (kp A K C 5) → Q (.inl (some (.int v))) (hp I A L (kc K :: lc B :: cc C :: O))) : AW X 139 211 [(0, .ref 0), (1, .ref 22), (2, .int (nI 5)), (3, .ref 24), (4, .int (C 2)), (5, .int (C 3)), (6, .int tl), (7, .int v)] [] (hp I A L (kc K :: lc B :: cc C :: O)) 0 0 Q := by
  refine a_iload_n (i := 2) q139_211 rfl rfl ?_
  refine a_iconst (v := 2) q139_212 (by decide) ?_
  refine a_icmp_eq (tgt := 222) q139_213 (by decide) (fun zc213 => absurd zc213 (by decide)) (fun zc213 => ?_)
  refine a_iload_n (i := 2) q139_216 rfl rfl ?_
  refine a_bipush (v := 8) q139_217 (by decide) ?_
  refine a_icmp_ne (tgt := 225) q139_219 (by decide) (fun zc219 => ?_) (fun zc219 => absurd zc219 (by decide))
  refine a_iload_n (i := 2) q139_225 rfl rfl ?_
  refine a_bipush (v := 9) q139_226 (by decide) ?_
  refine a_icmp_ne (tgt := 281) q139_228 (by decide) (fun zc228 => ?_) (fun zc228 => absurd zc228 (by decide))
  refine a_iload_n (i := 2) q139_281 rfl rfl ?_
  refine a_iconst (v := 5) q139_282 (by decide) ?_
  refine a_icmp_ge (tgt := 387) q139_283 (by decide) (fun zc283 => ?_) (fun zc283 => absurd (by decide) zc283)
  refine AW.cut 414 (b2i (m_of (VB A K) C 1 = 4 ∧ m_grp (VB A K) C)) (fun zk414 => ?_) ?_
  · skip
    refine a_aload_n (i := 1) q139_387 rfl rfl ?_
    refine a_iload q139_388 rfl ?_
    refine AW.ti hf.2.2.2.1 ?_
    refine a_iconst (v := 4) q139_390 (by decide) ?_
    refine a_iconst (v := 4) q139_391 (by decide) ?_
    refine a_cs4 q139_392 rfl ⟨rfl, rfl⟩ rfl ?_
    refine c_L_isOf hd.2.2.2.1 (by decide) (by decide) ?_
    refine ck_r ?_
    refine a_if_eq (tgt := 413) q139_395 (by decide) (fun zc395 => ?_) (fun zc395 => ?_)
    · skip
      refine a_iconst (v := 0) q139_413 (by decide) ?_
      exact cutv zk414 (b2i_f (fun zz => b2i_z.mp zc395 (by have y := zz.1; rw [vb_of (A := A) (K := K) (k := 1) hd.2.2.2.1 hf.2.2.2.1] at y; exact Or.inl y)))
    · skip
      refine a_aload_n (i := 1) q139_398 rfl rfl ?_
      refine a_iload q139_399 rfl ?_
      refine AW.ti hf.2.2.1 ?_
      refine a_iconst (v := 3) q139_401 (by decide) ?_
      refine a_iconst (v := 2) q139_402 (by decide) ?_
      refine a_cs4 q139_403 rfl ⟨rfl, rfl⟩ rfl ?_
      refine c_L_isOf hd.2.2.1 (by decide) (by decide) ?_
      refine ck_r ?_
      refine a_if_eq (tgt := 413) q139_406 (by decide) (fun zc406 => ?_) (fun zc406 => ?_)
      · skip
        refine a_iconst (v := 0) q139_413 (by decide) ?_
        exact cutv zk414 (b2i_f (fun zz => b2i_z.mp zc406 (by have y := zz.2; unfold m_grp at y; rw [vb_of (A := A) (K := K) (k := 0) hd.2.2.1 hf.2.2.1] at y; exact y)))
      · skip
        refine a_iconst (v := 1) q139_409 (by decide) ?_
        refine a_goto (tgt := 414) q139_410 (by decide) ?_
        exact cutv zk414 (b2i_t ⟨by rw [vb_of (A := A) (K := K) (k := 1) hd.2.2.2.1 hf.2.2.2.1]; have y := b2i_nz.mp zc395; rw [or_self] at y; exact y, by unfold m_grp; rw [vb_of (A := A) (K := K) (k := 0) hd.2.2.1 hf.2.2.1]; exact b2i_nz.mp zc406⟩)
  refine a_istore (i := 8) (lv' := [(0, _), (1, _), (2, _), (3, _), (4, _), (5, _), (6, _), (7, _), (8, _)]) q139_414 rfl rfl ?_
  refine a_iload_n (i := 2) q139_416 rfl rfl ?_
  refine a_iconst (v := 5) q139_417 (by decide) ?_
  refine a_icmp_ne (tgt := 452) q139_418 (by decide) (fun zc418 => absurd zc418 (by decide)) (fun zc418 => ?_)
  refine a_aload_n (i := 3) q139_421 rfl rfl ?_
  refine a_iconst (v := 0) q139_422 (by decide) ?_
  refine a_iald' q139_423 rfl (j := 0) rfl (by omega) (by decide) ?_
  refine a_iconst (v := 1) q139_424 (by decide) ?_
  refine a_icmp_ne (tgt := 444) q139_425 (by decide) (fun zc425 => ?_) (fun zc425 => ?_)
  · skip
    refine a_iconst (v := 1) q139_444 (by decide) ?_
    refine a_goto (tgt := 495) q139_445 (by decide) ?_
    refine a_ireturn q139_495 (nr_bool rfl (by decide)) ?_
    exact hq 1 (tru_1 (show ¬ m_b5 (VB A K) C from fun zz => zc425 zz.1))
  · skip
    refine a_aload_n (i := 1) q139_428 rfl rfl ?_
    refine a_iload q139_429 rfl ?_
    refine AW.ti hf.2.2.1 ?_
    refine a_iconst (v := 2) q139_431 (by decide) ?_
    refine a_iconst (v := 4) q139_432 (by decide) ?_
    refine a_cs4 q139_433 rfl ⟨rfl, rfl⟩ rfl ?_
    refine c_L_isOf hd.2.2.1 (by decide) (by decide) ?_
    refine ck_r ?_
    refine a_if_eq (tgt := 448) q139_436 (by decide) (fun zc436 => ?_) (fun zc436 => ?_)
    · skip
      refine a_iconst (v := 0) q139_448 (by decide) ?_
      refine a_goto (tgt := 495) q139_449 (by decide) ?_
      refine a_ireturn q139_495 (nr_bool rfl (by decide)) ?_
      exact hq 0 (tru_0 (show ¬ ¬ m_b5 (VB A K) C from fun zz => zz ⟨zc425, fun y => b2i_z.mp zc436 (by have y1 := y.1; rw [vb_of (A := A) (K := K) (k := 0) hd.2.2.1 hf.2.2.1] at y1; exact y1)⟩))
    · skip
      refine a_iload q139_439 rfl ?_
      refine a_if_eq (tgt := 448) q139_441 (by decide) (fun zc441 => ?_) (fun zc441 => ?_)
      · skip
        refine a_iconst (v := 0) q139_448 (by decide) ?_
        refine a_goto (tgt := 495) q139_449 (by decide) ?_
        refine a_ireturn q139_495 (nr_bool rfl (by decide)) ?_
        exact hq 0 (tru_0 (show ¬ ¬ m_b5 (VB A K) C from fun zz => zz ⟨zc425, fun y => htl.2.mpr y.2 zc441⟩))
      · skip
        refine a_iconst (v := 1) q139_444 (by decide) ?_
        refine a_goto (tgt := 495) q139_445 (by decide) ?_
        refine a_ireturn q139_495 (nr_bool rfl (by decide)) ?_
        exact hq 1 (tru_1 (show ¬ m_b5 (VB A K) C from fun zz => zz.2 ⟨by rw [vb_of (A := A) (K := K) (k := 0) hd.2.2.1 hf.2.2.1]; exact b2i_nz.mp zc436, htl.2.mp zc441⟩))
theorem kp_t6 {X : XS} {I : Nat → Int32} {A : Nat → Nat → Int32} {L : Nat → Nat → Int64} {O : AH} {Q : AO → AH → Prop} {K : Nat → Int32} {B : Nat → Int64} {C : Nat → Int32} {m a s0 s1 s2 s3 : Nat} {tl v : Int32} (hK : ∀ c, c < 6 → 0 ≤ K c ∧ K c ≤ 4) (hd : dgt m a s0 s1 s2 s3) (hf : digF C m a s0 s1 s2 s3) (htl : tru tl (TALL A K C)) (hv : tru v ((∀ j, j < 4 → PA A K C 6 j) ∧ ((6 : Nat) = 9 → ∀ e, e < 6 → wshC (VB A K) C e))) (hq : ∀ v, tru v (kp A K C 6) → Q (.inl (some (.int v))) (hp I A L (kc K :: lc B :: cc C :: O))) : AW X 139 211 [(0, .ref 0), (1, .ref 22), (2, .int (nI 6)), (3, .ref 24), (4, .int (C 2)), (5, .int (C 3)), (6, .int tl), (7, .int v)] [] (hp I A L (kc K :: lc B :: cc C :: O)) 0 0 Q := by
  refine a_iload_n (i := 2) q139_211 rfl rfl ?_
  refine a_iconst (v := 2) q139_212 (by decide) ?_
  refine a_icmp_eq (tgt := 222) q139_213 (by decide) (fun zc213 => absurd zc213 (by decide)) (fun zc213 => ?_)
  refine a_iload_n (i := 2) q139_216 rfl rfl ?_
  refine a_bipush (v := 8) q139_217 (by decide) ?_
  refine a_icmp_ne (tgt := 225) q139_219 (by decide) (fun zc219 => ?_) (fun zc219 => absurd zc219 (by decide))
  refine a_iload_n (i := 2) q139_225 rfl rfl ?_
  refine a_bipush (v := 9) q139_226 (by decide) ?_
  refine a_icmp_ne (tgt := 281) q139_228 (by decide) (fun zc228 => ?_) (fun zc228 => absurd zc228 (by decide))
  refine a_iload_n (i := 2) q139_281 rfl rfl ?_
  refine a_iconst (v := 5) q139_282 (by decide) ?_
  refine a_icmp_ge (tgt := 387) q139_283 (by decide) (fun zc283 => ?_) (fun zc283 => absurd (by decide) zc283)
  refine AW.cut 414 (b2i (m_of (VB A K) C 1 = 4 ∧ m_grp (VB A K) C)) (fun zk414 => ?_) ?_
  · skip
    refine a_aload_n (i := 1) q139_387 rfl rfl ?_
    refine a_iload q139_388 rfl ?_
    refine AW.ti hf.2.2.2.1 ?_
    refine a_iconst (v := 4) q139_390 (by decide) ?_
    refine a_iconst (v := 4) q139_391 (by decide) ?_
    refine a_cs4 q139_392 rfl ⟨rfl, rfl⟩ rfl ?_
    refine c_L_isOf hd.2.2.2.1 (by decide) (by decide) ?_
    refine ck_r ?_
    refine a_if_eq (tgt := 413) q139_395 (by decide) (fun zc395 => ?_) (fun zc395 => ?_)
    · skip
      refine a_iconst (v := 0) q139_413 (by decide) ?_
      exact cutv zk414 (b2i_f (fun zz => b2i_z.mp zc395 (by have y := zz.1; rw [vb_of (A := A) (K := K) (k := 1) hd.2.2.2.1 hf.2.2.2.1] at y; exact Or.inl y)))
    · skip
      refine a_aload_n (i := 1) q139_398 rfl rfl ?_
      refine a_iload q139_399 rfl ?_
      refine AW.ti hf.2.2.1 ?_
      refine a_iconst (v := 3) q139_401 (by decide) ?_
      refine a_iconst (v := 2) q139_402 (by decide) ?_
      refine a_cs4 q139_403 rfl ⟨rfl, rfl⟩ rfl ?_
      refine c_L_isOf hd.2.2.1 (by decide) (by decide) ?_
      refine ck_r ?_
      refine a_if_eq (tgt := 413) q139_406 (by decide) (fun zc406 => ?_) (fun zc406 => ?_)
      · skip
        refine a_iconst (v := 0) q139_413 (by decide) ?_
        exact cutv zk414 (b2i_f (fun zz => b2i_z.mp zc406 (by have y := zz.2; unfold m_grp at y; rw [vb_of (A := A) (K := K) (k := 0) hd.2.2.1 hf.2.2.1] at y; exact y)))
      · skip
        refine a_iconst (v := 1) q139_409 (by decide) ?_
        refine a_goto (tgt := 414) q139_410 (by decide) ?_
        exact cutv zk414 (b2i_t ⟨by rw [vb_of (A := A) (K := K) (k := 1) hd.2.2.2.1 hf.2.2.2.1]; have y := b2i_nz.mp zc395; rw [or_self] at y; exact y, by unfold m_grp; rw [vb_of (A := A) (K := K) (k := 0) hd.2.2.1 hf.2.2.1]; exact b2i_nz.mp zc406⟩)
  refine a_istore (i := 8) (lv' := [(0, _), (1, _), (2, _), (3, _), (4, _), (5, _), (6, _), (7, _), (8, _)]) q139_414 rfl rfl ?_
  refine a_iload_n (i := 2) q139_416 rfl rfl ?_
  refine a_iconst (v := 5) q139_417 (by decide) ?_
  refine a_icmp_ne (tgt := 452) q139_418 (by decide) (fun zc418 => ?_) (fun zc418 => absurd zc418 (by decide))
  refine a_iload_n (i := 2) q139_452 rfl rfl ?_
  refine a_bipush (v := 6) q139_453 (by decide) ?_
  refine a_icmp_ne (tgt := 478) q139_455 (by decide) (fun zc455 => absurd zc455 (by decide)) (fun zc455 => ?_)
  refine a_aload_n (i := 3) q139_458 rfl rfl ?_
  refine a_iconst (v := 1) q139_459 (by decide) ?_
  refine a_iald' q139_460 rfl (j := 1) rfl (by omega) (by decide) ?_
  refine a_iconst (v := 1) q139_461 (by decide) ?_
  refine a_icmp_ne (tgt := 470) q139_462 (by decide) (fun zc462 => ?_) (fun zc462 => ?_)
  · skip
    refine a_iconst (v := 1) q139_470 (by decide) ?_
    refine a_goto (tgt := 495) q139_471 (by decide) ?_
    refine a_ireturn q139_495 (nr_bool rfl (by decide)) ?_
    exact hq 1 (tru_1 (show ¬ (C 1 = 1 ∧ 0 ≤ C 3) from fun zz => zc462 zz.1))
  · skip
    refine a_iload q139_465 rfl ?_
    refine a_if_ge (tgt := 474) q139_467 (by decide) (fun zc467 => ?_) (fun zc467 => ?_)
    · skip
      refine a_iconst (v := 0) q139_474 (by decide) ?_
      refine a_goto (tgt := 495) q139_475 (by decide) ?_
      refine a_ireturn q139_495 (nr_bool rfl (by decide)) ?_
      exact hq 0 (tru_0 (show ¬ ¬ (C 1 = 1 ∧ 0 ≤ C 3) from fun zz => zz ⟨zc462, zc467⟩))
    · skip
      refine a_iconst (v := 1) q139_470 (by decide) ?_
      refine a_goto (tgt := 495) q139_471 (by decide) ?_
      refine a_ireturn q139_495 (nr_bool rfl (by decide)) ?_
      exact hq 1 (tru_1 (show ¬ (C 1 = 1 ∧ 0 ≤ C 3) from fun zz => zc467 zz.2))
theorem kp_t7 {X : XS} {I : Nat → Int32} {A : Nat → Nat → Int32} {L : Nat → Nat → Int64} {O : AH} {Q : AO → AH → Prop} {K : Nat → Int32} {B : Nat → Int64} {C : Nat → Int32} {m a s0 s1 s2 s3 : Nat} {tl v : Int32} (hK : ∀ c, c < 6 → 0 ≤ K c ∧ K c ≤ 4) (hd : dgt m a s0 s1 s2 s3) (hf : digF C m a s0 s1 s2 s3) (htl : tru tl (TALL A K C)) (hv : tru v ((∀ j, j < 4 → PA A K C 7 j) ∧ ((7 : Nat) = 9 → ∀ e, e < 6 → wshC (VB A K) C e))) (hq : ∀ v, tru v (kp A K C 7) → Q (.inl (some (.int v))) (hp I A L (kc K :: lc B :: cc C :: O))) : AW X 139 211 [(0, .ref 0), (1, .ref 22), (2, .int (nI 7)), (3, .ref 24), (4, .int (C 2)), (5, .int (C 3)), (6, .int tl), (7, .int v)] [] (hp I A L (kc K :: lc B :: cc C :: O)) 0 0 Q := by
  refine a_iload_n (i := 2) q139_211 rfl rfl ?_
  refine a_iconst (v := 2) q139_212 (by decide) ?_
  refine a_icmp_eq (tgt := 222) q139_213 (by decide) (fun zc213 => absurd zc213 (by decide)) (fun zc213 => ?_)
  refine a_iload_n (i := 2) q139_216 rfl rfl ?_
  refine a_bipush (v := 8) q139_217 (by decide) ?_
  refine a_icmp_ne (tgt := 225) q139_219 (by decide) (fun zc219 => ?_) (fun zc219 => absurd zc219 (by decide))
  refine a_iload_n (i := 2) q139_225 rfl rfl ?_
  refine a_bipush (v := 9) q139_226 (by decide) ?_
  refine a_icmp_ne (tgt := 281) q139_228 (by decide) (fun zc228 => ?_) (fun zc228 => absurd zc228 (by decide))
  refine a_iload_n (i := 2) q139_281 rfl rfl ?_
  refine a_iconst (v := 5) q139_282 (by decide) ?_
  refine a_icmp_ge (tgt := 387) q139_283 (by decide) (fun zc283 => ?_) (fun zc283 => absurd (by decide) zc283)
  refine AW.cut 414 (b2i (m_of (VB A K) C 1 = 4 ∧ m_grp (VB A K) C)) (fun zk414 => ?_) ?_
  · skip
    refine a_aload_n (i := 1) q139_387 rfl rfl ?_
    refine a_iload q139_388 rfl ?_
    refine AW.ti hf.2.2.2.1 ?_
    refine a_iconst (v := 4) q139_390 (by decide) ?_
    refine a_iconst (v := 4) q139_391 (by decide) ?_
    refine a_cs4 q139_392 rfl ⟨rfl, rfl⟩ rfl ?_
    refine c_L_isOf hd.2.2.2.1 (by decide) (by decide) ?_
    refine ck_r ?_
    refine a_if_eq (tgt := 413) q139_395 (by decide) (fun zc395 => ?_) (fun zc395 => ?_)
    · skip
      refine a_iconst (v := 0) q139_413 (by decide) ?_
      exact cutv zk414 (b2i_f (fun zz => b2i_z.mp zc395 (by have y := zz.1; rw [vb_of (A := A) (K := K) (k := 1) hd.2.2.2.1 hf.2.2.2.1] at y; exact Or.inl y)))
    · skip
      refine a_aload_n (i := 1) q139_398 rfl rfl ?_
      refine a_iload q139_399 rfl ?_
      refine AW.ti hf.2.2.1 ?_
      refine a_iconst (v := 3) q139_401 (by decide) ?_
      refine a_iconst (v := 2) q139_402 (by decide) ?_
      refine a_cs4 q139_403 rfl ⟨rfl, rfl⟩ rfl ?_
      refine c_L_isOf hd.2.2.1 (by decide) (by decide) ?_
      refine ck_r ?_
      refine a_if_eq (tgt := 413) q139_406 (by decide) (fun zc406 => ?_) (fun zc406 => ?_)
      · skip
        refine a_iconst (v := 0) q139_413 (by decide) ?_
        exact cutv zk414 (b2i_f (fun zz => b2i_z.mp zc406 (by have y := zz.2; unfold m_grp at y; rw [vb_of (A := A) (K := K) (k := 0) hd.2.2.1 hf.2.2.1] at y; exact y)))
      · skip
        refine a_iconst (v := 1) q139_409 (by decide) ?_
        refine a_goto (tgt := 414) q139_410 (by decide) ?_
        exact cutv zk414 (b2i_t ⟨by rw [vb_of (A := A) (K := K) (k := 1) hd.2.2.2.1 hf.2.2.2.1]; have y := b2i_nz.mp zc395; rw [or_self] at y; exact y, by unfold m_grp; rw [vb_of (A := A) (K := K) (k := 0) hd.2.2.1 hf.2.2.1]; exact b2i_nz.mp zc406⟩)
  refine a_istore (i := 8) (lv' := [(0, _), (1, _), (2, _), (3, _), (4, _), (5, _), (6, _), (7, _), (8, _)]) q139_414 rfl rfl ?_
  refine a_iload_n (i := 2) q139_416 rfl rfl ?_
  refine a_iconst (v := 5) q139_417 (by decide) ?_
  refine a_icmp_ne (tgt := 452) q139_418 (by decide) (fun zc418 => ?_) (fun zc418 => absurd zc418 (by decide))
  refine a_iload_n (i := 2) q139_452 rfl rfl ?_
  refine a_bipush (v := 6) q139_453 (by decide) ?_
  refine a_icmp_ne (tgt := 478) q139_455 (by decide) (fun zc455 => ?_) (fun zc455 => absurd zc455 (by decide))
  refine a_aload_n (i := 3) q139_478 rfl rfl ?_
  refine a_iconst (v := 1) q139_479 (by decide) ?_
  refine a_iald' q139_480 rfl (j := 1) rfl (by omega) (by decide) ?_
  refine a_iconst (v := 2) q139_481 (by decide) ?_
  refine a_icmp_ne (tgt := 490) q139_482 (by decide) (fun zc482 => ?_) (fun zc482 => ?_)
  · skip
    refine a_iconst (v := 1) q139_490 (by decide) ?_
    refine a_goto (tgt := 495) q139_491 (by decide) ?_
    refine a_ireturn q139_495 (nr_bool rfl (by decide)) ?_
    exact hq 1 (tru_1 (show ¬ (C 1 = 2 ∧ ¬ (m_of (VB A K) C 1 = 4 ∧ m_grp (VB A K) C)) from fun zz => zc482 zz.1))
  · skip
    refine a_iload q139_485 rfl ?_
    refine a_if_eq (tgt := 494) q139_487 (by decide) (fun zc487 => ?_) (fun zc487 => ?_)
    · skip
      refine a_iconst (v := 0) q139_494 (by decide) ?_
      refine a_ireturn q139_495 (nr_bool rfl (by decide)) ?_
      exact hq 0 (tru_0 (show ¬ ¬ (C 1 = 2 ∧ ¬ (m_of (VB A K) C 1 = 4 ∧ m_grp (VB A K) C)) from fun zz => zz ⟨zc482, b2i_z.mp zc487⟩))
    · skip
      refine a_iconst (v := 1) q139_490 (by decide) ?_
      refine a_goto (tgt := 495) q139_491 (by decide) ?_
      refine a_ireturn q139_495 (nr_bool rfl (by decide)) ?_
      exact hq 1 (tru_1 (show ¬ (C 1 = 2 ∧ ¬ (m_of (VB A K) C 1 = 4 ∧ m_grp (VB A K) C)) from fun zz => zz.2 (b2i_nz.mp zc487)))
theorem kp_t9 {X : XS} {I : Nat → Int32} {A : Nat → Nat → Int32} {L : Nat → Nat → Int64} {O : AH} {Q : AO → AH → Prop} {K : Nat → Int32} {B : Nat → Int64} {C : Nat → Int32} {m a s0 s1 s2 s3 : Nat} {tl v : Int32} (hK : ∀ c, c < 6 → 0 ≤ K c ∧ K c ≤ 4) (hd : dgt m a s0 s1 s2 s3) (hf : digF C m a s0 s1 s2 s3) (htl : tru tl (TALL A K C)) (hv : tru v ((∀ j, j < 4 → PA A K C 9 j) ∧ ((9 : Nat) = 9 → ∀ e, e < 6 → wshC (VB A K) C e))) (hq : ∀ v, tru v (kp A K C 9) → Q (.inl (some (.int v))) (hp I A L (kc K :: lc B :: cc C :: O))) : AW X 139 211 [(0, .ref 0), (1, .ref 22), (2, .int (nI 9)), (3, .ref 24), (4, .int (C 2)), (5, .int (C 3)), (6, .int tl), (7, .int v)] [] (hp I A L (kc K :: lc B :: cc C :: O)) 0 0 Q := by
  refine a_iload_n (i := 2) q139_211 rfl rfl ?_
  refine a_iconst (v := 2) q139_212 (by decide) ?_
  refine a_icmp_eq (tgt := 222) q139_213 (by decide) (fun zc213 => absurd zc213 (by decide)) (fun zc213 => ?_)
  refine a_iload_n (i := 2) q139_216 rfl rfl ?_
  refine a_bipush (v := 8) q139_217 (by decide) ?_
  refine a_icmp_ne (tgt := 225) q139_219 (by decide) (fun zc219 => ?_) (fun zc219 => absurd zc219 (by decide))
  refine a_iload_n (i := 2) q139_225 rfl rfl ?_
  refine a_bipush (v := 9) q139_226 (by decide) ?_
  refine a_icmp_ne (tgt := 281) q139_228 (by decide) (fun zc228 => absurd zc228 (by decide)) (fun zc228 => ?_)
  refine a_iload q139_231 rfl ?_
  refine a_if_eq (tgt := 279) q139_233 (by decide) (fun zc233 => ?_) (fun zc233 => ?_)
  · skip
    refine a_iconst (v := 0) q139_279 (by decide) ?_
    refine a_ireturn q139_280 (nr_bool rfl (by decide)) ?_
    exact hq 0 (tru_0 (show ¬ wshM (A 30 1) (VB A K) C 6 from fun zz => hv.2.mpr ⟨fun j hj => ⟨fun y => absurd y (by decide), fun y => absurd y (by decide)⟩, fun _ => zz.2⟩ zc233))
  · skip
    refine a_aload_n (i := 0) q139_236 rfl rfl ?_
    refine a_iconst (v := 1) q139_237 (by decide) ?_
    refine a_iald' q139_238 rfl (j := 1) rfl (by decide) (by decide) ?_
    refine a_bipush (v := 45) q139_239 (by decide) ?_
    refine a_icmp_eq (tgt := 275) q139_241 (by decide) (fun zc241 => ?_) (fun zc241 => ?_)
    · skip
      refine a_iconst (v := 1) q139_275 (by decide) ?_
      refine a_goto (tgt := 280) q139_276 (by decide) ?_
      refine a_ireturn q139_280 (nr_bool rfl (by decide)) ?_
      exact hq 1 (tru_1 (show wshM (A 30 1) (VB A K) C 6 from ⟨Or.inl zc241, (hv.2.mp zc233).2 rfl⟩))
    · skip
      refine a_aload_n (i := 0) q139_244 rfl rfl ?_
      refine a_iconst (v := 1) q139_245 (by decide) ?_
      refine a_iald' q139_246 rfl (j := 1) rfl (by decide) (by decide) ?_
      refine AW.cut 272 (g_named (C 0)) (fun zk272 => ?_) ?_
      · skip
        refine a_aload_n (i := 3) q139_247 rfl rfl ?_
        refine a_iconst (v := 0) q139_248 (by decide) ?_
        refine a_iald' q139_249 rfl (j := 0) rfl (by omega) (by decide) ?_
        refine a_if_ne (tgt := 258) q139_250 (by decide) (fun zc250 => ?_) (fun zc250 => ?_)
        · skip
          refine a_aload_n (i := 3) q139_258 rfl rfl ?_
          refine a_iconst (v := 0) q139_259 (by decide) ?_
          refine a_iald' q139_260 rfl (j := 0) rfl (by omega) (by decide) ?_
          refine a_iconst (v := 1) q139_261 (by decide) ?_
          refine a_icmp_ne (tgt := 270) q139_262 (by decide) (fun zc262 => ?_) (fun zc262 => ?_)
          · skip
            refine a_bipush (v := 112) q139_270 (by decide) ?_
            exact cutv zk272 (by have y1 := zc250; unfold g_named; rw [if_neg y1, if_neg zc262])
          · skip
            refine a_bipush (v := 108) q139_265 (by decide) ?_
            refine a_goto (tgt := 272) q139_267 (by decide) ?_
            exact cutv zk272 (by unfold g_named; rw [if_neg zc250, if_pos zc262])
        · skip
          refine a_bipush (v := 98) q139_253 (by decide) ?_
          refine a_goto (tgt := 272) q139_255 (by decide) ?_
          exact cutv zk272 (by unfold g_named; rw [if_pos zc250])
      refine a_icmp_ne (tgt := 279) q139_272 (by decide) (fun zc272 => ?_) (fun zc272 => ?_)
      · skip
        refine a_iconst (v := 0) q139_279 (by decide) ?_
        refine a_ireturn q139_280 (nr_bool rfl (by decide)) ?_
        exact hq 0 (tru_0 (show ¬ wshM (A 30 1) (VB A K) C 6 from fun zz => zz.1.elim zc241 zc272))
      · skip
        refine a_iconst (v := 1) q139_275 (by decide) ?_
        refine a_goto (tgt := 280) q139_276 (by decide) ?_
        refine a_ireturn q139_280 (nr_bool rfl (by decide)) ?_
        exact hq 1 (tru_1 (show wshM (A 30 1) (VB A K) C 6 from ⟨Or.inr zc272, (hv.2.mp zc233).2 rfl⟩))
theorem c_L_keeps {X : XS} {I : Nat → Int32} {A : Nat → Nat → Int32} {L : Nat → Nat → Int64} {O : AH} {Q : AO → AH → Prop} {K : Nat → Int32} {B : Nat → Int64} {C : Nat → Int32} {r m a s0 s1 s2 s3 : Nat} (hK : ∀ c, c < 6 → 0 ≤ K c ∧ K c ≤ 4) (hr1 : 1 ≤ r) (hr : r ≤ 9) (hd : dgt m a s0 s1 s2 s3) (hf : digF C m a s0 s1 s2 s3) (hq : ∀ v, tru v (kp A K C r) → Q (.inl (some (.int v))) (hp I A L (kc K :: lc B :: cc C :: O))) : Call X 139 [.ref 0, .ref 22, .int (nI r), .ref 24] (hp I A L (kc K :: lc B :: cc C :: O)) Q := by
  refine call_of (by decide) rfl rfl ?_
  refine a_aload_n (i := 3) q139_0 rfl rfl ?_
  refine a_iconst (v := 2) q139_1 (by decide) ?_
  refine a_iald' q139_2 rfl (j := 2) rfl (by omega) (by decide) ?_
  refine a_istore (i := 4) (lv' := [(0, _), (1, _), (2, _), (3, _), (4, _)]) q139_3 rfl rfl ?_
  refine a_aload_n (i := 3) q139_5 rfl rfl ?_
  refine a_iconst (v := 3) q139_6 (by decide) ?_
  refine a_iald' q139_7 rfl (j := 3) rfl (by omega) (by decide) ?_
  refine a_istore (i := 5) (lv' := [(0, _), (1, _), (2, _), (3, _), (4, _), (5, _)]) q139_8 rfl rfl ?_
  refine AW.cut 33 (b2i (TALL A K C)) (fun zk33 => ?_) ?_
  · skip
    refine a_aload_n (i := 1) q139_10 rfl rfl ?_
    refine a_iload q139_11 rfl ?_
    refine AW.ti hf.2.2.2.1 ?_
    refine a_iconst (v := 4) q139_13 (by decide) ?_
    refine a_iconst (v := 4) q139_14 (by decide) ?_
    refine a_cs4 q139_15 rfl ⟨rfl, rfl⟩ rfl ?_
    refine c_L_isOf hd.2.2.2.1 (by decide) (by decide) ?_
    refine ck_r ?_
    refine a_if_ne (tgt := 28) q139_18 (by decide) (fun zc18 => ?_) (fun zc18 => ?_)
    · skip
      refine a_iconst (v := 1) q139_28 (by decide) ?_
      refine a_goto (tgt := 33) q139_29 (by decide) ?_
      exact cutv zk33 (b2i_t (Or.inl (by rw [vb_of (A := A) (K := K) (k := 1) hd.2.2.2.1 hf.2.2.2.1]; have y := b2i_nz.mp zc18; rw [or_self] at y; exact y)))
    · skip
      refine a_aload_n (i := 3) q139_21 rfl rfl ?_
      refine a_iconst (v := 1) q139_22 (by decide) ?_
      refine a_iald' q139_23 rfl (j := 1) rfl (by omega) (by decide) ?_
      refine a_iconst (v := 1) q139_24 (by decide) ?_
      refine a_icmp_ne (tgt := 32) q139_25 (by decide) (fun zc25 => ?_) (fun zc25 => ?_)
      · skip
        refine a_iconst (v := 0) q139_32 (by decide) ?_
        exact cutv zk33 (b2i_f (fun zz => zz.elim (fun y => b2i_z.mp zc18 (by rw [vb_of (A := A) (K := K) (k := 1) hd.2.2.2.1 hf.2.2.2.1] at y; exact Or.inl y)) zc25))
      · skip
        refine a_iconst (v := 1) q139_28 (by decide) ?_
        refine a_goto (tgt := 33) q139_29 (by decide) ?_
        exact cutv zk33 (b2i_t (Or.inr zc25))
  refine a_istore (i := 6) (lv' := [(0, _), (1, _), (2, _), (3, _), (4, _), (5, _), (6, _)]) q139_33 rfl rfl ?_
  have htl : tru (b2i (TALL A K C)) (TALL A K C) := tru_b
  generalize b2i (TALL A K C) = tl at htl ⊢
  refine a_iconst (v := 1) q139_35 (by decide) ?_
  refine a_istore (i := 7) (lv' := [(0, _), (1, _), (2, _), (3, _), (4, _), (5, _), (6, _), (7, _)]) q139_36 rfl rfl ?_
  refine a_iconst (v := 2) q139_38 (by decide) ?_
  refine a_istore (i := 8) (lv' := [(0, _), (1, _), (2, _), (3, _), (4, _), (5, _), (6, _), (7, _), (8, _)]) q139_39 rfl rfl ?_
  refine l_kpA 4 (k := 0) hK (by omega) hd hf (Nat.zero_add 4) ⟨Or.inr rfl, ⟨fun _ j hj => absurd hj (Nat.not_lt_zero j), fun _ => by decide⟩⟩ (fun v hvA => ?_)
  refine a_iconst (v := 0) q139_139 (by decide) ?_
  refine a_istore (i := 8) (lv' := [(0, _), (1, _), (2, _), (3, _), (4, _), (5, _), (6, _), (7, _), (8, _)]) q139_140 rfl rfl ?_
  refine l_kpB 6 (e := 0) (by omega) (Nat.zero_add 6) (tru_c hvA ⟨fun zz => ⟨zz, fun _ j hj => absurd hj (Nat.not_lt_zero j)⟩, fun zz => zz.1⟩) (fun v hv => ?_)
  rcases (show r = 1 ∨ r = 2 ∨ r = 3 ∨ r = 4 ∨ r = 5 ∨ r = 6 ∨ r = 7 ∨ r = 8 ∨ r = 9 by omega) with rfl | rfl | rfl | rfl | rfl | rfl | rfl | rfl | rfl
  · exact kp_t1 hK hd hf htl hv (fun v z => hq v z)
  · exact kp_t2 hK hd hf htl hv (fun v z => hq v z)
  · exact kp_t3 hK hd hf htl hv (fun v z => hq v z)
  · exact kp_t4 hK hd hf htl hv (fun v z => hq v z)
  · exact kp_t5 hK hd hf htl hv (fun v z => hq v z)
  · exact kp_t6 hK hd hf htl hv (fun v z => hq v z)
  · exact kp_t7 hK hd hf htl hv (fun v z => hq v z)
  · exact kp_t8 hK hd hf htl hv (fun v z => hq v z)
  · exact kp_t9 hK hd hf htl hv (fun v z => hq v z)

theorem l_brk (m9 : Nat) : ∀ {X : XS} {I : Nat → Int32} {A : Nat → Nat → Int32} {L : Nat → Nat → Int64} {O : AH} {Q : AO → AH → Prop} {K : Nat → Int32} {B : Nat → Int64} {C : Nat → Int32} {r m a s0 s1 s2 s3 : Nat} (hK : ∀ c, c < 6 → 0 ≤ K c ∧ K c ≤ 4) (hd : dgt m a s0 s1 s2 s3) (hf : digF C m a s0 s1 s2 s3) (hr1 : 1 ≤ r) (hm : r + m9 = 10) (hno : ∀ j, 1 ≤ j → j < r → kp A K C j) (hq : ∀ v, (v = 0 ↔ ∀ j, 1 ≤ j → j ≤ 9 → kp A K C j) → Q (.inl (some (.int v))) (hp I A L (kc K :: lc B :: cc C :: O))), AW X 140 2 [(0, .ref 0), (1, .ref 22), (2, .ref 24), (3, .int (nI r))] [] (hp I A L (kc K :: lc B :: cc C :: O)) 0 0 Q := by
  induction m9 with
  | zero =>
    intro X I A L O Q K B C r m a s0 s1 s2 s3 hK hd hf hr1 hm hno hq
    refine a_iload_n (i := 3) q140_2 rfl rfl ?_
    refine a_bipush (v := 9) q140_3 (by decide) ?_
    refine a_icmp_gt (tgt := 26) q140_5 (by decide) (fun zc5 => ?_) (fun zc5 => absurd (nI_lt (show 9 < r by omega) (by omega)) zc5)
    refine a_iconst (v := 0) q140_26 (by decide) ?_
    refine a_ireturn q140_27 (nr_int rfl _) ?_
    exact hq 0 ⟨fun _ j h1 h2 => hno j h1 (by omega), fun _ => rfl⟩
  | succ m9 ih =>
    intro X I A L O Q K B C r m a s0 s1 s2 s3 hK hd hf hr1 hm hno hq
    refine a_iload_n (i := 3) q140_2 rfl rfl ?_
    refine a_bipush (v := 9) q140_3 (by decide) ?_
    refine a_icmp_gt (tgt := 26) q140_5 (by decide) (fun zc5 => absurd zc5 (nI_nlt (show r ≤ 9 by omega) (by decide))) (fun zc5 => ?_)
    refine a_aload_n (i := 0) q140_8 rfl rfl ?_
    refine a_aload_n (i := 1) q140_9 rfl rfl ?_
    refine a_iload_n (i := 3) q140_10 rfl rfl ?_
    refine a_aload_n (i := 2) q140_11 rfl rfl ?_
    refine a_cs4 q140_12 rfl ⟨rfl, rfl⟩ rfl ?_
    refine c_L_keeps hK hr1 (by omega) hd hf (fun v hv => ?_)
    refine ck_r ?_
    refine a_if_ne (tgt := 20) q140_15 (by decide) (fun zc15 => ?_) (fun zc15 => ?_)
    · skip
      refine a_iinc (v := nI (r + 1)) (lv' := [(0, _), (1, _), (2, _), (3, _)]) q140_20 rfl rfl (nI_1 (r)) rfl ?_
      refine a_goto (tgt := 2) q140_23 (by decide) ?_
      exact ih hK hd hf (by omega) (show r + 1 + m9 = 10 by omega) (fun j h1 h2 => by
          rcases Nat.lt_or_ge j r with y | y
          · exact hno j h1 y
          · rw [show j = r by omega]; exact hv.2.mp zc15) hq
    · skip
      refine a_iload_n (i := 3) q140_18 rfl rfl ?_
      refine a_ireturn q140_19 (nr_int rfl _) ?_
      exact hq (nI r) ⟨fun zz => absurd zz (nI_ne0 hr1 (by omega)), fun zz => absurd zc15 (hv.2.mpr (zz r hr1 (by omega)))⟩

theorem c_L_broken {X : XS} {I : Nat → Int32} {A : Nat → Nat → Int32} {L : Nat → Nat → Int64} {O : AH} {Q : AO → AH → Prop} {K : Nat → Int32} {B : Nat → Int64} {C : Nat → Int32} {m a s0 s1 s2 s3 : Nat} (hK : ∀ c, c < 6 → 0 ≤ K c ∧ K c ≤ 4) (hd : dgt m a s0 s1 s2 s3) (hf : digF C m a s0 s1 s2 s3) (hq : ∀ v, (v = 0 ↔ ∀ j, 1 ≤ j → j ≤ 9 → kp A K C j) → Q (.inl (some (.int v))) (hp I A L (kc K :: lc B :: cc C :: O))) : Call X 140 [.ref 0, .ref 22, .ref 24] (hp I A L (kc K :: lc B :: cc C :: O)) Q := by
  refine call_of (by decide) rfl rfl ?_
  refine a_iconst (v := 1) q140_0 (by decide) ?_
  refine a_istore_n (i := 3) (lv' := [(0, _), (1, _), (2, _), (3, _)]) q140_1 rfl rfl rfl ?_
  exact l_brk 9 (r := 1) hK hd hf (Nat.le_refl 1) rfl (fun j h1 h2 => by omega) hq
