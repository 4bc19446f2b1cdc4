/-! the picks -/
def shU (f : Nat → Int32) : Nat → Nat → Int32
  | 0 => f
  | a + 1 => shU (upd f (a + 1) (f a)) a
def shD (f : Nat → Int32) : Nat → Nat → Nat → Int32
  | _, 0 => f
  | i, m + 1 => shD (upd f i (f (i + 1))) (i + 1) m
def drF (ok : Int32 → Prop) [DecidablePred ok] : (Nat → Int32) → Nat → Nat → Nat → (Nat → Int32) × Nat
  | f, k, _, 0 => (f, k)
  | f, k, i, m + 1 => if ok (f i) then drF ok (upd f k (f i)) (k + 1) (i + 1) m else drF ok f k (i + 1) m
def kpN (k : Nat) : Nat := if k < 4 then k + 1 else k
def kpF (f : Nat → Int32) (k : Nat) (c : Int32) : Nat → Int32 := upd (shU f (kpN k - 1)) 0 c

theorem c_X4_hasPresent {X : XS} {I : Nat → Int32} {A : Nat → Nat → Int32} {L : Nat → Nat → Int64} {O : Nat → UInt64} {Q : AO → AH → Prop}  (hq : Q (.inl (some (.int (b2i (¬ I 12 = -1))))) (hp I A L O)) : Call X 36 [.ref 19] (hp I A L O) Q := by
  refine call_of (by decide) rfl rfl ?_
  refine a_aload_n (i := 0) q36_0 rfl rfl ?_
  refine a_getfield q36_1 rfl rfl ?_
  refine a_iconst (v := (-1)) q36_4 (by decide) ?_
  refine a_icmp_eq (tgt := 12) q36_5 (by decide) (fun zc5 => ?_) (fun zc5 => ?_)
  · skip
    refine a_iconst (v := 0) q36_12 (by decide) ?_
    refine a_ireturn q36_13 (nr_bool rfl (by decide)) ?_
    exact lfi hq (by unfold b2i; split <;> simp_all)
  · skip
    refine a_iconst (v := 1) q36_8 (by decide) ?_
    refine a_goto (tgt := 13) q36_9 (by decide) ?_
    refine a_ireturn q36_13 (nr_bool rfl (by decide)) ?_
    exact lfi hq (by unfold b2i; split <;> simp_all)

theorem c_X4_present {X : XS} {I : Nat → Int32} {A : Nat → Nat → Int32} {L : Nat → Nat → Int64} {O : Nat → UInt64} {Q : AO → AH → Prop}  (hq : Q (.inl (some (.int (I 12)))) (hp I A L O)) : Call X 37 [.ref 19] (hp I A L O) Q := by
  refine call_of (by decide) rfl rfl ?_
  refine a_aload_n (i := 0) q37_0 rfl rfl ?_
  refine a_getfield q37_1 rfl rfl ?_
  refine a_ireturn q37_4 (nr_int rfl _) ?_
  exact hq

theorem c_X4_formerCount {X : XS} {I : Nat → Int32} {A : Nat → Nat → Int32} {L : Nat → Nat → Int64} {O : Nat → UInt64} {Q : AO → AH → Prop}  (hq : Q (.inl (some (.int (I 11)))) (hp I A L O)) : Call X 38 [.ref 19] (hp I A L O) Q := by
  refine call_of (by decide) rfl rfl ?_
  refine a_aload_n (i := 0) q38_0 rfl rfl ?_
  refine a_getfield q38_1 rfl rfl ?_
  refine a_ireturn q38_4 (nr_int rfl _) ?_
  exact hq

theorem l_keep (m : Nat) : ∀ {X : XS} {I : Nat → Int32} {A : Nat → Nat → Int32} {L : Nat → Nat → Int64} {O : Nat → UInt64} {Q : AO → AH → Prop}  (hm : m < 4) (hq : Q (.inl none) (hp I (va_up A 20 (upd (shU (A 20) m) 0 (I 12))) L O)), AW X 42 25 [(0, .ref 19), (1, .int (nI m))] [] (hp I A L O) 0 0 Q := by
  induction m with
  | zero =>
    intro X I A L O Q  hm hq
    refine a_iload_n (i := 1) q42_25 rfl rfl ?_
    refine a_if_le (tgt := 58) q42_26 (by decide) (fun zc26 => ?_) (fun zc26 => absurd (by decide) zc26)
    refine a_aload_n (i := 0) q42_58 rfl rfl ?_
    refine a_getfield q42_59 rfl rfl ?_
    refine a_iconst (v := 0) q42_62 (by decide) ?_
    refine a_aload_n (i := 0) q42_63 rfl rfl ?_
    refine a_getfield q42_64 rfl rfl ?_
    refine a_iast' q42_67 rfl (j := 0) rfl (by decide) (by decide) (h' := hp I (va_up A 20 (upd (A 20) 0 (I 12))) L O) rfl ?_
    refine a_return q42_68 rfl ?_
    exact hq
  | succ m ih =>
    intro X I A L O Q  hm hq
    refine a_iload_n (i := 1) q42_25 rfl rfl ?_
    refine a_if_le (tgt := 58) q42_26 (by decide) (fun zc26 => absurd zc26 (nI_nle (Nat.succ_pos m) (by omega))) (fun zc26 => ?_)
    refine a_iload_n (i := 1) q42_29 rfl rfl ?_
    refine a_aload_n (i := 0) q42_30 rfl rfl ?_
    refine a_getfield q42_31 rfl rfl ?_
    refine a_alen (v := 4) q42_34 rfl (by decide) rfl ?_
    refine a_icmp_ge (tgt := 58) q42_35 (by decide) (fun zc35 => absurd zc35 (nI_ge (b := 4) (show m + 1 < 4 by omega) (by decide))) (fun zc35 => ?_)
    refine a_aload_n (i := 0) q42_38 rfl rfl ?_
    refine a_getfield q42_39 rfl rfl ?_
    refine a_iload_n (i := 1) q42_42 rfl rfl ?_
    refine a_aload_n (i := 0) q42_43 rfl rfl ?_
    refine a_getfield q42_44 rfl rfl ?_
    refine a_iload_n (i := 1) q42_47 rfl rfl ?_
    refine a_iconst (v := 1) q42_48 (by decide) ?_
    refine a_isub q42_49 ?_
    refine AW.ti (nI_pred m) ?_
    refine a_iald' q42_50 rfl (j := m) rfl (by omega) (by decide) ?_
    refine a_iast' q42_51 rfl (j := m + 1) rfl (by omega) (by decide) (h' := hp I (va_up A 20 (upd (A 20) (m + 1) (A 20 m))) L O) rfl ?_
    refine a_iinc (v := nI m) (lv' := [(0, _), (1, _)]) q42_52 rfl rfl (pk_m1 m) rfl ?_
    refine a_goto (tgt := 25) q42_55 (by decide) ?_
    exact ih (A := va_up A 20 (upd (A 20) (m + 1) (A 20 m))) (by omega) (lfh hq rfl)

theorem va_self {α : Type} (f : Nat → α) (k : Nat) : va_up f k (f k) = f := by funext j; unfold va_up; split <;> simp_all
theorem c_X4_keepPresent {X : XS} {I : Nat → Int32} {A : Nat → Nat → Int32} {L : Nat → Nat → Int64} {O : Nat → UInt64} {Q : AO → AH → Prop} {k : Nat} (hn : I 11 = nI k) (hk : k ≤ 4) (hq : Q (.inl none) (hp (va_up I 11 (nI (kpN k))) (va_up A 20 (kpF (A 20) k (I 12))) L O)) : Call X 42 [.ref 19] (hp I A L O) Q := by
  refine call_of (by decide) rfl rfl ?_
  refine a_aload_n (i := 0) q42_0 rfl rfl ?_
  refine a_getfield q42_1 rfl rfl ?_
  refine a_iconst (v := 4) q42_4 (by decide) ?_
  refine a_icmp_ge (tgt := 18) q42_5 (by decide) (fun zc5 => ?_) (fun zc5 => ?_)
  · skip
    refine a_aload_n (i := 0) q42_18 rfl rfl ?_
    refine a_getfield q42_19 rfl rfl ?_
    refine a_iconst (v := 1) q42_22 (by decide) ?_
    refine a_isub q42_23 ?_
    have zk : k = 4 := by
      have := (nI_leI (a := 4) (b := k) (by decide) (by omega)).mp (by rw [← hn]; exact zc5)
      omega
    subst zk
    refine AW.ti (show I 11 - 1 = nI 3 by rw [hn]; rfl) ?_
    refine AW.hp (h' := hp (va_up I 11 (nI 4)) A L O) (by rw [← hn, va_self]) ?_
    refine a_istore_n (i := 1) (lv' := [(0, _), (1, _)]) q42_24 rfl rfl rfl ?_
    exact l_keep 3 (by decide) hq
  · skip
    refine a_aload_n (i := 0) q42_8 rfl rfl ?_
    refine a_dup q42_9 rfl ?_
    refine a_getfield q42_10 rfl rfl ?_
    refine a_iconst (v := 1) q42_13 (by decide) ?_
    refine a_iadd q42_14 ?_
    refine AW.ti (show I 11 + 1 = nI (k + 1) by rw [hn]; exact nI_1 k) ?_
    refine a_putfield q42_15 rfl rfl rfl rfl ?_
    refine AW.hp (h' := hp (va_up I 11 (nI (k + 1))) A L O) rfl ?_
    refine a_aload_n (i := 0) q42_18 rfl rfl ?_
    refine a_getfield q42_19 rfl rfl ?_
    refine a_iconst (v := 1) q42_22 (by decide) ?_
    refine a_isub q42_23 ?_
    have zk : k < 4 := by
      have := mt (nI_leI (a := 4) (b := k) (by decide) (by omega)).mpr (by rw [← hn]; exact zc5)
      omega
    refine AW.ti (show nI (k + 1) - 1 = nI (kpN k - 1) by rw [kpN, if_pos zk]; exact nI_pred k) ?_
    refine AW.hp (h' := hp (va_up I 11 (nI (kpN k))) A L O) (by rw [kpN, if_pos zk]) ?_
    refine a_istore_n (i := 1) (lv' := [(0, _), (1, _)]) q42_24 rfl rfl rfl ?_
    exact l_keep (kpN k - 1) (by unfold kpN; split <;> omega) hq

theorem c_X4_become {X : XS} {I : Nat → Int32} {A : Nat → Nat → Int32} {L : Nat → Nat → Int64} {O : Nat → UInt64} {Q : AO → AH → Prop} {c : Int32} {k : Nat} (hn : I 11 = nI k) (hk : k ≤ 4) (h0 : I 12 = -1 → Q (.inl none) (hp (va_up I 12 c) A L O)) (h1 : ¬ I 12 = -1 → Q (.inl none) (hp (va_up (va_up I 11 (nI (kpN k))) 12 c) (va_up A 20 (kpF (A 20) k (I 12))) L O)) : Call X 39 [.ref 19, .int c] (hp I A L O) Q := by
  refine call_of (by decide) rfl rfl ?_
  refine a_aload_n (i := 0) q39_0 rfl rfl ?_
  refine a_cv0 q39_1 rfl rfl ⟨rfl, rfl⟩ rfl ?_
  refine c_X4_hasPresent ?_
  refine ck_r ?_
  refine a_if_eq (tgt := 11) q39_4 (by decide) (fun zc4 => ?_) (fun zc4 => ?_)
  · skip
    refine a_aload_n (i := 0) q39_11 rfl rfl ?_
    refine a_iload_n (i := 1) q39_12 rfl rfl ?_
    refine a_putfield q39_13 rfl rfl rfl rfl ?_
    refine AW.hp (h' := hp (va_up I 12 c) A L O) rfl ?_
    refine a_return q39_16 rfl ?_
    exact h0 (Classical.not_not.mp (b2i_z.mp zc4))
  · skip
    refine a_aload_n (i := 0) q39_7 rfl rfl ?_
    refine a_cv0 q39_8 rfl rfl ⟨rfl, rfl⟩ rfl ?_
    refine c_X4_keepPresent hn hk ?_
    refine ck_v ?_
    refine a_aload_n (i := 0) q39_11 rfl rfl ?_
    refine a_iload_n (i := 1) q39_12 rfl rfl ?_
    refine a_putfield q39_13 rfl rfl rfl rfl ?_
    refine AW.hp (h' := hp (va_up (va_up I 11 (nI (kpN k))) 12 c) (va_up A 20 (kpF (A 20) k (I 12))) L O) rfl ?_
    refine a_return q39_16 rfl ?_
    exact h1 (b2i_nz.mp zc4)

theorem l_back (m : Nat) : ∀ {X : XS} {I : Nat → Int32} {A : Nat → Nat → Int32} {L : Nat → Nat → Int64} {O : Nat → UInt64} {Q : AO → AH → Prop} {i k : Nat} (hn : I 11 = nI k) (hk : k < 4) (hm : i + m = k) (hq : Q (.inl none) (hp I (va_up A 20 (shD (A 20) i m)) L O)), AW X 40 30 [(0, .ref 19), (1, .int (nI i))] [] (hp I A L O) 0 0 Q := by
  induction m with
  | zero =>
    intro X I A L O Q i k hn hk hm hq
    refine a_iload_n (i := 1) q40_30 rfl rfl ?_
    refine a_aload_n (i := 0) q40_31 rfl rfl ?_
    refine a_getfield q40_32 rfl rfl ?_
    refine AW.ti (hn) ?_
    refine a_icmp_ge (tgt := 69) q40_35 (by decide) (fun zc35 => ?_) (fun zc35 => absurd (nI_le (show k ≤ i by omega) (by omega)) zc35)
    refine a_return q40_69 rfl ?_
    exact lfh hq (by rw [shD, va_self])
  | succ m ih =>
    intro X I A L O Q i k hn hk hm hq
    refine a_iload_n (i := 1) q40_30 rfl rfl ?_
    refine a_aload_n (i := 0) q40_31 rfl rfl ?_
    refine a_getfield q40_32 rfl rfl ?_
    refine AW.ti (hn) ?_
    refine a_icmp_ge (tgt := 69) q40_35 (by decide) (fun zc35 => absurd zc35 (nI_ge (show i < k by omega) (by omega))) (fun zc35 => ?_)
    refine a_iload_n (i := 1) q40_38 rfl rfl ?_
    refine a_iconst (v := 1) q40_39 (by decide) ?_
    refine a_iadd q40_40 ?_
    refine AW.ti (nI_1 i) ?_
    refine a_aload_n (i := 0) q40_41 rfl rfl ?_
    refine a_getfield q40_42 rfl rfl ?_
    refine a_alen (v := 4) q40_45 rfl (by decide) rfl ?_
    refine a_icmp_ge (tgt := 69) q40_46 (by decide) (fun zc46 => absurd zc46 (nI_ge (b := 4) (show i + 1 < 4 by omega) (by decide))) (fun zc46 => ?_)
    refine a_aload_n (i := 0) q40_49 rfl rfl ?_
    refine a_getfield q40_50 rfl rfl ?_
    refine a_iload_n (i := 1) q40_53 rfl rfl ?_
    refine a_aload_n (i := 0) q40_54 rfl rfl ?_
    refine a_getfield q40_55 rfl rfl ?_
    refine a_iload_n (i := 1) q40_58 rfl rfl ?_
    refine a_iconst (v := 1) q40_59 (by decide) ?_
    refine a_iadd q40_60 ?_
    refine a_iald' q40_61 rfl (j := i + 1) (nI_1 i) (by omega) (by decide) ?_
    refine a_iast' q40_62 rfl (j := i) rfl (by omega) (by decide) (h' := hp I (va_up A 20 (upd (A 20) i (A 20 (i + 1)))) L O) rfl ?_
    refine a_iinc (v := nI (i + 1)) (lv' := [(0, _), (1, _)]) q40_63 rfl rfl (nI_1 (i)) rfl ?_
    refine a_goto (tgt := 30) q40_66 (by decide) ?_
    exact ih (A := va_up A 20 (upd (A 20) i (A 20 (i + 1)))) hn hk (show i + 1 + m = k by omega) (lfh hq rfl)

theorem c_X4_goBack {X : XS} {I : Nat → Int32} {A : Nat → Nat → Int32} {L : Nat → Nat → Int64} {O : Nat → UInt64} {Q : AO → AH → Prop} {k : Nat} (hn : I 11 = nI (k + 1)) (hk : k < 4) (hq : Q (.inl none) (hp (va_up (va_up I 12 (A 20 0)) 11 (nI k)) (va_up A 20 (shD (A 20) 0 k)) L O)) : Call X 40 [.ref 19] (hp I A L O) Q := by
  refine call_of (by decide) rfl rfl ?_
  refine a_aload_n (i := 0) q40_0 rfl rfl ?_
  refine a_getfield q40_1 rfl rfl ?_
  refine a_if_ne (tgt := 8) q40_4 (by decide) (fun zc4 => ?_) (fun zc4 => absurd zc4 (show ¬ I 11 = 0 from by rw [hn]; exact nI_ne0 (Nat.succ_pos k) (by omega)))
  refine a_aload_n (i := 0) q40_8 rfl rfl ?_
  refine a_aload_n (i := 0) q40_9 rfl rfl ?_
  refine a_getfield q40_10 rfl rfl ?_
  refine a_iconst (v := 0) q40_13 (by decide) ?_
  refine a_iald' q40_14 rfl (j := 0) rfl (by decide) (by decide) ?_
  refine a_putfield q40_15 rfl rfl rfl rfl ?_
  refine AW.hp (h' := hp (va_up I 12 (A 20 0)) A L O) rfl ?_
  refine a_aload_n (i := 0) q40_18 rfl rfl ?_
  refine a_dup q40_19 rfl ?_
  refine a_getfield q40_20 rfl rfl ?_
  refine a_iconst (v := 1) q40_23 (by decide) ?_
  refine a_isub q40_24 ?_
  refine AW.ti (show I 11 - 1 = nI k by rw [hn]; exact nI_pred k) ?_
  refine a_putfield q40_25 rfl rfl rfl rfl ?_
  refine AW.hp (h' := hp (va_up (va_up I 12 (A 20 0)) 11 (nI k)) A L O) rfl ?_
  refine a_iconst (v := 0) q40_28 (by decide) ?_
  refine a_istore_n (i := 1) (lv' := [(0, _), (1, _)]) q40_29 rfl rfl rfl ?_
  exact l_back (A := A) k (i := 0) rfl hk (Nat.zero_add k) hq

abbrev okC (I : Nat → Int32) (A : Nat → Nat → Int32) (c : Int32) : Prop := f_fb I A c = 0
theorem drF_le {ok : Int32 → Prop} [DecidablePred ok] : ∀ (m : Nat) (f : Nat → Int32) (k i : Nat), (drF ok f k i m).2 ≤ k + m
  | 0, f, k, i => Nat.le_refl _
  | m + 1, f, k, i => by
    rw [drF]; split
    · have := drF_le (ok := ok) m (upd f k (f i)) (k + 1) (i + 1); omega
    · have := drF_le (ok := ok) m f k (i + 1); omega
theorem l_drop (m : Nat) : ∀ {X : XS} {I : Nat → Int32} {A : Nat → Nat → Int32} {L : Nat → Nat → Int64} {O : Nat → UInt64} {Q : AO → AH → Prop} {g : Nat → Int32} {i k kk : Nat} (hn : I 11 = nI k) (hk : k ≤ 4) (hm : i + m = k) (hi : kk ≤ i) (hq : Q (.inl (some (.int (nI k - nI (drF (okC I A) g kk i m).2)))) (hp (va_up I 11 (nI (drF (okC I A) g kk i m).2)) (va_up A 20 (drF (okC I A) g kk i m).1) L O)), AW X 41 4 [(0, .ref 19), (1, .ref 9), (2, .int (nI kk)), (3, .int (nI i))] [] (hp I (va_up A 20 g) L O) 0 0 Q := by
  induction m with
  | zero =>
    intro X I A L O Q g i k kk hn hk hm hi hq
    refine a_iload_n (i := 3) q41_4 rfl rfl ?_
    refine a_aload_n (i := 0) q41_5 rfl rfl ?_
    refine a_getfield q41_6 rfl rfl ?_
    refine AW.ti (hn) ?_
    refine a_icmp_ge (tgt := 55) q41_9 (by decide) (fun zc9 => ?_) (fun zc9 => absurd (nI_le (show k ≤ i by omega) (by omega)) zc9)
    refine a_aload_n (i := 0) q41_55 rfl rfl ?_
    refine a_getfield q41_56 rfl rfl ?_
    refine a_iload_n (i := 2) q41_59 rfl rfl ?_
    refine a_isub q41_60 ?_
    refine a_istore_n (i := 3) (lv' := [(0, _), (1, _), (2, _), (3, _)]) q41_61 rfl rfl rfl ?_
    refine a_aload_n (i := 0) q41_62 rfl rfl ?_
    refine a_iload_n (i := 2) q41_63 rfl rfl ?_
    refine a_putfield q41_64 rfl rfl rfl rfl ?_
    refine AW.hp (h' := hp (va_up I 11 (nI kk)) (va_up A 20 g) L O) rfl ?_
    refine a_iload_n (i := 3) q41_67 rfl rfl ?_
    refine a_ireturn q41_68 (nr_int rfl _) ?_
    exact lfi hq (by rw [hn]; rfl)
  | succ m ih =>
    intro X I A L O Q g i k kk hn hk hm hi hq
    refine a_iload_n (i := 3) q41_4 rfl rfl ?_
    refine a_aload_n (i := 0) q41_5 rfl rfl ?_
    refine a_getfield q41_6 rfl rfl ?_
    refine AW.ti (hn) ?_
    refine a_icmp_ge (tgt := 55) q41_9 (by decide) (fun zc9 => absurd zc9 (nI_ge (show i < k by omega) (by omega))) (fun zc9 => ?_)
    refine a_iload_n (i := 3) q41_12 rfl rfl ?_
    refine a_aload_n (i := 0) q41_13 rfl rfl ?_
    refine a_getfield q41_14 rfl rfl ?_
    refine a_alen (v := 4) q41_17 rfl (by decide) rfl ?_
    refine a_icmp_ge (tgt := 55) q41_18 (by decide) (fun zc18 => absurd zc18 (nI_ge (b := 4) (show i < 4 by omega) (by decide))) (fun zc18 => ?_)
    refine a_aload_n (i := 1) q41_21 rfl rfl ?_
    refine a_aload_n (i := 0) q41_22 rfl rfl ?_
    refine a_getfield q41_23 rfl rfl ?_
    refine a_iload_n (i := 3) q41_26 rfl rfl ?_
    refine a_iald' q41_27 rfl (j := i) rfl (by omega) (by decide) ?_
    refine a_cv1 q41_28 rfl rfl ⟨rfl, rfl⟩ rfl ?_
    refine c_X3_allows (lfi (x := b2i (okC I A (g i))) ?_ rfl)
    refine ck_r ?_
    refine a_if_eq (tgt := 49) q41_31 (by decide) (fun zc31 => ?_) (fun zc31 => ?_)
    · skip
      refine a_iinc (v := nI (i + 1)) (lv' := [(0, _), (1, _), (2, _), (3, _)]) q41_49 rfl rfl (nI_1 (i)) rfl ?_
      refine a_goto (tgt := 4) q41_52 (by decide) ?_
      have ze : drF (okC I A) g kk i (m + 1) = drF (okC I A) g kk (i + 1) m := by rw [drF, if_neg (b2i_z.mp zc31)]
      rw [ze] at hq
      exact ih hn hk (show i + 1 + m = k by omega) (by omega) hq
    · skip
      refine a_aload_n (i := 0) q41_34 rfl rfl ?_
      refine a_getfield q41_35 rfl rfl ?_
      refine a_iload_n (i := 2) q41_38 rfl rfl ?_
      refine a_aload_n (i := 0) q41_39 rfl rfl ?_
      refine a_getfield q41_40 rfl rfl ?_
      refine a_iload_n (i := 3) q41_43 rfl rfl ?_
      refine a_iald' q41_44 rfl (j := i) rfl (by omega) (by decide) ?_
      refine a_iast' q41_45 rfl (j := kk) rfl (by omega) (by decide) (h' := hp I (va_up A 20 (upd g kk (g i))) L O) rfl ?_
      refine a_iinc (v := nI (kk + 1)) (lv' := [(0, _), (1, _), (2, _), (3, _)]) q41_46 rfl rfl (nI_1 (kk)) rfl ?_
      refine a_iinc (v := nI (i + 1)) (lv' := [(0, _), (1, _), (2, _), (3, _)]) q41_49 rfl rfl (nI_1 (i)) rfl ?_
      refine a_goto (tgt := 4) q41_52 (by decide) ?_
      have ze : drF (okC I A) g kk i (m + 1) = drF (okC I A) (upd g kk (g i)) (kk + 1) (i + 1) m := by rw [drF, if_pos (b2i_nz.mp zc31)]
      rw [ze] at hq
      exact ih hn hk (show i + 1 + m = k by omega) (by omega) hq

theorem c_X4_dropForbidden {X : XS} {I : Nat → Int32} {A : Nat → Nat → Int32} {L : Nat → Nat → Int64} {O : Nat → UInt64} {Q : AO → AH → Prop} {k : Nat} (hn : I 11 = nI k) (hk : k ≤ 4) (hq : Q (.inl (some (.int (nI k - nI (drF (okC I A) (A 20) 0 0 k).2)))) (hp (va_up I 11 (nI (drF (okC I A) (A 20) 0 0 k).2)) (va_up A 20 (drF (okC I A) (A 20) 0 0 k).1) L O)) : Call X 41 [.ref 19, .ref 9] (hp I A L O) Q := by
  refine call_of (by decide) rfl rfl ?_
  refine a_iconst (v := 0) q41_0 (by decide) ?_
  refine a_istore_n (i := 2) (lv' := [(0, _), (1, _), (2, _)]) q41_1 rfl rfl rfl ?_
  refine a_iconst (v := 0) q41_2 (by decide) ?_
  refine a_istore_n (i := 3) (lv' := [(0, _), (1, _), (2, _), (3, _)]) q41_3 rfl rfl rfl ?_
  refine AW.hp (h' := hp I (va_up A 20 (A 20)) L O) (by rw [va_self]) ?_
  exact l_drop k (i := 0) (kk := 0) hn hk (Nat.zero_add k) (Nat.le_refl 0) hq
