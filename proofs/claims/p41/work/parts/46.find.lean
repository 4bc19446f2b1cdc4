/-! the search finds the five best -/
theorem fl_ind {σ : Type} {g : Nat → σ → σ} {P : Nat → σ → Prop} : ∀ (m s : Nat) (b : σ), (∀ i b, s ≤ i → i < s + m → P i b → P (i + 1) (g i b)) → P s b → P (s + m) (fl g m s b)
  | 0, _, _, _, h => h
  | m + 1, s, b, hs, h => by
    have z := fl_ind m (s + 1) (g s b) (fun i b h1 h2 => hs i b (by omega) (by omega)) (hs s b (Nat.le_refl s) (by omega) h)
    rw [show s + 1 + m = s + (m + 1) by omega] at z
    exact z
theorem al_idx {fb : Int32 → Int32} {m a s0 s1 s2 s3 : Nat} (h : dgt m a s0 s1 s2 s3) : alI fb (idx m a s0 s1 s2 s3) ↔ dist s0 s1 s2 s3 ∧ fb (cod m a s0 s1 s2 s3) = 0 := by
  obtain ⟨-, -, h3, h4, h5, h6, -⟩ := t_idx h
  unfold alI dstI
  rw [h3, h4, h5, h6, codI_idx h]
theorem pl_idx {co : Int32 → Int32} {m a s0 s1 s2 s3 : Nat} (h : dgt m a s0 s1 s2 s3) : plI co (idx m a s0 s1 s2 s3) = p_of (co (cod m a s0 s1 s2 s3)) (cod m a s0 s1 s2 s3) := by
  unfold plI; rw [codI_idx h]
/-- what the search may rely on: a start of an allowed chart breaks no rule but that of the wishes, and its place is no later -/
def Hop (fb co : Int32 → Int32) : Prop := (∀ m a c s, dgt m a 0 0 c s → ¬ fb (cod m a 0 0 c s) = 0) ∧
  ∀ m a x y c s, dgt m a x y c s → dist x y c s → fb (cod m a x y c s) = 0 → ∀ c', (c' = 0 ∨ c' = c) → (fb (cod m a x y c' 0) = 0 ∨ fb (cod m a x y c' 0) = 9) ∧ p_of (co (cod m a x y c' 0)) (cod m a x y c' 0) ≤ p_of (co (cod m a x y c s)) (cod m a x y c s)
theorem l_letr {a b c : Int64} (h : a ≤ b) (k : b ≤ c) : a ≤ c := by rw [fa_le64] at *; omega
theorem hop_use {fb co : Int32 → Int32} (H : Hop fb co) {m a x y c s c' : Nat} {b : BT} (hb : b.1 ≤ 5) (hd : dgt m a x y c s) (hc' : c' = 0 ∨ c' = c) (hh : hopeless fb co b (cod m a x y c' 0)) (ha : alI fb (idx m a x y c s)) : b.1 = 5 ∧ b.2 4 ≤ plI co (idx m a x y c s) := by
  have h1 := (al_idx hd).mp ha
  have h2 := H.2 m a x y c s hd h1.1 h1.2 c' hc'
  rcases hh with hh | hh
  · exact (h2.1.elim (fun z => absurd z hh.1) (fun z => absurd z hh.2))
  · have h3 := (ouR_iff hb).mp hh
    rw [pl_idx hd]
    exact ⟨h3.1, l_letr h3.2 h2.2⟩
section FIND
variable {fb co : Int32 → Int32}
theorem f_sizes (hc : coOK co) {m a x y c : Nat} (hd : dgt m a x y c 0) (hx : dist x y c 0) {b : BT} (h : TopS (SN fb co (idx m a x y c 0)) b) : TopS (SN fb co (idx m a x y c 0 + 7)) (sSizes fb co (cod m a x y c 0) b) := by
  obtain ⟨h1, h2, h3, h4, h5, -⟩ := id hd
  refine fl_ind (P := fun i b => TopS (SN fb co (idx m a x y c 0 + i)) b) 7 0 b (fun i b _ hi hb => ?_) h
  have hi7 : i < 7 := by omega
  have hdi : dgt m a x y c i := ⟨h1, h2, h3, h4, h5, hi7⟩
  have et : idx m a x y c 0 + i = idx m a x y c i := rfl
  show TopS (SN fb co (idx m a x y c i + 1)) (sStep fb co (cod m a x y c 0) i b)
  have hb' : TopS (SN fb co (idx m a x y c i)) b := hb
  have hlt := (t_idx hdi).2.2.2.2.2.2
  unfold sStep
  by_cases hh : g_holds (cod m a x y c 0) (xI i)
  · rw [if_pos hh]
    have hz := (cod_holds hd hi7).mp hh
    refine Top_skip hb' (by omega) (fun t t1 t2 ht => ?_)
    have : t = idx m a x y c i := by omega
    subst this
    have hdd := ((al_idx hdi).mp ht).1
    unfold dist at hdd; omega
  · rw [if_neg hh, cod_w3 hd hi7]
    have hz : ¬ (¬ i = 0 ∧ (i = x ∨ i = y ∨ i = c ∨ i = 0)) := fun z => hh ((cod_holds hd hi7).mpr z)
    have hdd : dist x y c i := by unfold dist at hx ⊢; omega
    by_cases hf : fb (cod m a x y c i) = 0
    · rw [if_pos hf]
      have := Top_step hc hlt hb' ((al_idx hdi).mpr ⟨hdd, hf⟩)
      rw [pl_idx hdi] at this
      exact this
    · rw [if_neg hf]
      refine Top_skip hb' (by omega) (fun t t1 t2 ht => ?_)
      have : t = idx m a x y c i := by omega
      subst this
      exact absurd ((al_idx hdi).mp ht).2 hf
theorem rng1 {m a x y c t : Nat} (h1 : idx m a x y c 0 ≤ t) (h2 : t < idx m a x y c 0 + 7) : ∃ s, s < 7 ∧ t = idx m a x y c s := ⟨t - idx m a x y c 0, by omega, by unfold idx at *; omega⟩
theorem rng2 {m a x y t : Nat} (h1 : idx m a x y 0 0 ≤ t) (h2 : t < idx m a x y 0 0 + 49) : ∃ c s, c < 7 ∧ s < 7 ∧ t = idx m a x y c s := ⟨(t - idx m a x y 0 0) / 7, (t - idx m a x y 0 0) % 7, by omega, by omega, by unfold idx at *; omega⟩
theorem f_cols (hc : coOK co) (H : Hop fb co) {m a x y : Nat} (hd : dgt m a x y 0 0) (hx : dist x y 0 0) {b : BT} (h : TopS (SN fb co (idx m a x y 0 0)) b) : TopS (SN fb co (idx m a x y 0 0 + 49)) (sCols fb co (cod m a x y 0 0) b) := by
  obtain ⟨h1, h2, h3, h4, -, -⟩ := id hd
  refine fl_ind (P := fun i b => TopS (SN fb co (idx m a x y 0 0 + 7 * i)) b) 7 0 b (fun i b _ hi hb => ?_) h
  have hi7 : i < 7 := by omega
  have hdi : dgt m a x y i 0 := ⟨h1, h2, h3, h4, hi7, by decide⟩
  have et : idx m a x y 0 0 + 7 * i = idx m a x y i 0 := by unfold idx; omega
  rw [show idx m a x y 0 0 + 7 * (i + 1) = idx m a x y i 0 + 7 by unfold idx; omega]
  rw [et] at hb
  unfold sCol
  by_cases hh : g_holds (cod m a x y 0 0) (xI i)
  · rw [if_pos hh]
    have hz := (cod_holds hd hi7).mp hh
    refine Top_skip hb (by omega) (fun t t1 t2 ht => ?_)
    obtain ⟨s, s1, rfl⟩ := rng1 t1 t2
    have hdd := ((al_idx ⟨h1, h2, h3, h4, hi7, s1⟩).mp ht).1
    unfold dist at hdd; omega
  · rw [if_neg hh, cod_w2 hd hi7]
    have hz : ¬ (¬ i = 0 ∧ (i = x ∨ i = y ∨ i = 0 ∨ i = 0)) := fun z => hh ((cod_holds hd hi7).mpr z)
    have hdd : dist x y i 0 := by unfold dist at hx ⊢; omega
    by_cases hp : hopeless fb co b (cod m a x y i 0)
    · rw [if_pos hp]
      refine Top_skip hb (by omega) (fun t t1 t2 ht => ?_)
      obtain ⟨s, s1, rfl⟩ := rng1 t1 t2
      exact hop_use H hb.1 ⟨h1, h2, h3, h4, hi7, s1⟩ (Or.inr rfl) hp ht
    · rw [if_neg hp]
      exact f_sizes hc hdi hdd hb
theorem f_Y (hc : coOK co) (H : Hop fb co) {m a x : Nat} (hd : dgt m a x 0 0 0) {b : BT} (h : TopS (SN fb co (idx m a x 0 0 0)) b) : TopS (SN fb co (idx m a x 0 0 0 + 343)) (fl (sY fb co (cod m a x 0 0 0) (xI x)) 7 0 b) := by
  obtain ⟨h1, h2, h3, -, -, -⟩ := id hd
  refine fl_ind (P := fun i b => TopS (SN fb co (idx m a x 0 0 0 + 49 * i)) b) 7 0 b (fun i b _ hi hb => ?_) h
  have hi7 : i < 7 := by omega
  have hdi : dgt m a x i 0 0 := ⟨h1, h2, h3, hi7, by decide, by decide⟩
  have et : idx m a x 0 0 0 + 49 * i = idx m a x i 0 0 := by unfold idx; omega
  rw [show idx m a x 0 0 0 + 49 * (i + 1) = idx m a x i 0 0 + 49 by unfold idx; omega]
  rw [et] at hb
  unfold sY
  by_cases hh : xI x = xI i
  · rw [if_pos hh]
    have hxi : x = i := by
      have : ∀ a, a < 7 → ∀ b, b < 7 → xI a = xI b → a = b := by decide +kernel
      exact this x h3 i hi7 hh
    subst hxi
    refine Top_skip hb (by omega) (fun t t1 t2 ht => ?_)
    obtain ⟨c, s, c1, s1, rfl⟩ := rng2 t1 t2
    have hdc : dgt m a x x c s := ⟨h1, h2, h3, h3, c1, s1⟩
    have hz := (al_idx hdc).mp ht
    by_cases hx0 : x = 0
    · subst hx0; exact absurd hz.2 (H.1 m a c s hdc)
    · have := hz.1
      unfold dist at this; omega
  · rw [if_neg hh, cod_w1 hd hi7]
    have hxi : ¬ x = i := fun z => hh (by rw [z])
    have hdd : dist x i 0 0 := by unfold dist; omega
    by_cases hp : hopeless fb co b (cod m a x i 0 0)
    · rw [if_pos hp]
      refine Top_skip hb (by omega) (fun t t1 t2 ht => ?_)
      obtain ⟨c, s, c1, s1, rfl⟩ := rng2 t1 t2
      exact hop_use H hb.1 ⟨h1, h2, h3, hi7, c1, s1⟩ (Or.inl rfl) hp ht
    · rw [if_neg hp]
      exact f_cols hc H hdi hdd hb
theorem f_from (hc : coOK co) (H : Hop fb co) {m a : Nat} (hm : m < 3) (ha : a < 3) {b : BT} (h : TopS (SN fb co (idx m a 0 0 0 0)) b) : TopS (SN fb co (idx m a 0 0 0 0 + 2401)) (sFrom fb co (cod m a 0 0 0 0) b) := by
  have hd : dgt m a 0 0 0 0 := ⟨hm, ha, by decide, by decide, by decide, by decide⟩
  refine fl_ind (P := fun i b => TopS (SN fb co (idx m a 0 0 0 0 + 343 * i)) b) 7 0 b (fun i b _ hi hb => ?_) h
  have hi7 : i < 7 := by omega
  rw [show idx m a 0 0 0 0 + 343 * (i + 1) = idx m a i 0 0 0 + 343 by unfold idx; omega]
  rw [show idx m a 0 0 0 0 + 343 * i = idx m a i 0 0 0 by unfold idx; omega] at hb
  unfold sX
  rw [cod_w0 hd hi7]
  exact f_Y hc H ⟨hm, ha, hi7, by decide, by decide, by decide⟩ hb
theorem ro_mkN {m : Nat} (h : m < 3) : ro_m m = nI (mkN m) := by
  rcases (show m = 0 ∨ m = 1 ∨ m = 2 by omega) with rfl | rfl | rfl <;> decide
theorem SN_0 (p : Int64) : False ↔ SN fb co 0 p := ⟨False.elim, fun ⟨t, h, _⟩ => absurd h (Nat.not_lt_zero t)⟩
/-- THE SEARCH: what it keeps are the five best of all charts that are allowed -/
theorem f_all (hc : coOK co) (H : Hop fb co) (f : Nat → Int64) : TopS (SN fb co 21609) (sAll fb co (0, f)) := by
  have h0 : TopS (SN fb co 0) (0, f) := TopS_c SN_0 (TopS_0 f)
  refine fl_ind (P := fun i b => TopS (SN fb co (7203 * i)) b) 3 0 (0, f) (fun i b _ hi hb => ?_) h0
  have hi3 : i < 3 := by omega
  refine fl_ind (P := fun j b => TopS (SN fb co (7203 * i + 2401 * j)) b) 3 0 b (fun j b _ hj hb => ?_) hb
  have hj3 : j < 3 := by omega
  unfold sAgg
  rw [ro_mkN hi3, cod_bare hi3 hj3]
  rw [show 7203 * i + 2401 * (j + 1) = idx i j 0 0 0 0 + 2401 by unfold idx; omega]
  rw [show 7203 * i + 2401 * j = idx i j 0 0 0 0 by unfold idx; omega] at hb
  exact f_from hc H hi3 hj3 hb
end FIND
