/-! the five best of a set of places -/
def TopS (S : Int64 → Prop) (b : BT) : Prop := b.1 ≤ 5 ∧ (∀ i j, i < j → j < b.1 → b.2 i < b.2 j) ∧ (∀ i, i < b.1 → S (b.2 i)) ∧ ∀ p, S p → (∃ i, i < b.1 ∧ b.2 i = p) ∨ (b.1 = 5 ∧ b.2 4 < p)
theorem l_irr {a : Int64} (h : a < a) : False := by rw [fa_lt64] at h; omega
theorem l_tr {a b c : Int64} (h : a < b) (k : b < c) : a < c := by rw [fa_lt64] at *; omega
theorem l_tri (a b : Int64) : a < b ∨ a = b ∨ b < a := by rw [fa_lt64, fa_eq64, fa_lt64]; omega
theorem l_nlt {a b : Int64} (h : ¬ a < b) (hn : ¬ b = a) : b < a := by rw [fa_lt64] at *; rw [fa_eq64] at hn; omega
theorem l_le {a b : Int64} (h : a ≤ b) (hn : ¬ a = b) : a < b := by rw [fa_le64] at h; rw [fa_eq64] at hn; rw [fa_lt64]; omega
theorem l_ltle {a b : Int64} (h : a < b) : a ≤ b := by rw [fa_lt64] at h; rw [fa_le64]; omega
theorem l_nle {a b : Int64} (h : ¬ a ≤ b) : b < a := by rw [fa_le64] at h; rw [fa_lt64]; omega
theorem offA_spec (p : Int64) : ∀ (a : Nat) (f : Nat → Int64), (∀ i j, i < j → j < a → f i < f j) → (∀ i, i < a → ¬ f i = p) →
    ∃ t, t ≤ a ∧ (∀ j, j < t → offA f p a j = f j ∧ f j < p) ∧ offA f p a t = p ∧ (∀ j, t < j → j ≤ a → offA f p a j = f (j - 1) ∧ p < f (j - 1)) ∧ ∀ j, a < j → offA f p a j = f j
  | 0, f, _, _ => ⟨0, Nat.le_refl 0, fun j hj => absurd hj (Nat.not_lt_zero j), pk_uLs, fun j h1 h2 => by omega, fun j hj => pk_uLn (by omega)⟩
  | a + 1, f, hs, hn => by
    by_cases hp : p < f a
    · have e : offA f p (a + 1) = offA (vp_updL f (a + 1) (f a)) p a := by rw [offA, if_pos hp]
      have g : ∀ i, i ≤ a → vp_updL f (a + 1) (f a) i = f i := fun i hi => pk_uLn (by omega)
      obtain ⟨t, h1, h2, h3, h4, h5⟩ := offA_spec p a (vp_updL f (a + 1) (f a)) (fun i j hi hj => by rw [g i (by omega), g j (by omega)]; exact hs i j hi (by omega)) (fun i hi => by rw [g i (by omega)]; exact hn i (by omega))
      refine ⟨t, by omega, fun j hj => ?_, by rw [e]; exact h3, fun j hj hj2 => ?_, fun j hj => ?_⟩
      · have z := h2 j hj
        rw [g j (by omega)] at z; rw [e]; exact z
      · rw [e]
        by_cases hja : j ≤ a
        · have z := h4 j hj hja
          rw [g (j - 1) (by omega)] at z; exact z
        · have hje : j = a + 1 := by omega
          subst hje
          rw [h5 _ (by omega)]
          refine ⟨?_, ?_⟩
          · rw [pk_uLs]; rfl
          · exact hp
      · rw [e, h5 j (by omega)]; exact pk_uLn (by omega)
    · have e : offA f p (a + 1) = vp_updL f (a + 1) p := by rw [offA, if_neg hp]
      have hlt : f a < p := l_nlt hp (hn a (by omega))
      refine ⟨a + 1, Nat.le_refl _, fun j hj => ?_, by rw [e]; exact pk_uLs, fun j h1 h2 => by omega, fun j hj => by rw [e]; exact pk_uLn (by omega)⟩
      rw [e]
      refine ⟨pk_uLn (by omega), ?_⟩
      by_cases hja : j = a
      · rw [hja]; exact hlt
      · exact l_tr (hs j a (by omega) (by omega)) hlt
theorem TopS_0 (f : Nat → Int64) : TopS (fun _ => False) (0, f) := ⟨Nat.zero_le 5, fun i j _ h => absurd h (Nat.not_lt_zero j), fun i h => absurd h (Nat.not_lt_zero i), fun p h => h.elim⟩
theorem TopS_c {S S' : Int64 → Prop} {b : BT} (e : ∀ p, S p ↔ S' p) (h : TopS S b) : TopS S' b := ⟨h.1, h.2.1, fun i hi => (e _).mp (h.2.2.1 i hi), fun p hp => h.2.2.2 p ((e p).mpr hp)⟩
theorem TopS_skip {S S' : Int64 → Prop} {b : BT} (h : TopS S b) (hs : ∀ p, S p → S' p) (hn : ∀ p, S' p → S p ∨ (b.1 = 5 ∧ b.2 4 ≤ p)) : TopS S' b := by
  refine ⟨h.1, h.2.1, fun i hi => hs _ (h.2.2.1 i hi), fun p hp => ?_⟩
  rcases hn p hp with z | ⟨z1, z2⟩
  · exact h.2.2.2 p z
  · by_cases hz : b.2 4 = p
    · exact Or.inl ⟨4, by omega, hz⟩
    · exact Or.inr ⟨z1, l_le z2 hz⟩
theorem ouR_iff {k : Nat} (hk : k ≤ 5) {f : Nat → Int64} {p : Int64} : ouR (nI k) f p ↔ k = 5 ∧ f 4 ≤ p := by
  have e : (5 : Int32) ≤ nI k ↔ 5 ≤ k := nI_leI (a := 5) (by decide) (by omega)
  constructor
  · intro h; exact ⟨by have := e.mp h.1; omega, h.2⟩
  · intro h; exact ⟨e.mpr (by omega), h.2⟩
theorem TopS_offer {S : Int64 → Prop} {b : BT} {p : Int64} (h : TopS S b) (hp : ¬ S p) : TopS (fun z => S z ∨ z = p) (offerB b p) := by
  obtain ⟨h5, hs, hin, hall⟩ := h
  have hne : ∀ i, i < b.1 → ¬ b.2 i = p := fun i hi e => hp (e ▸ hin i hi)
  unfold offerB
  by_cases hou : ouR (nI b.1) b.2 p
  · rw [if_pos hou]
    have ho := (ouR_iff h5).mp hou
    refine ⟨h5, hs, fun i hi => Or.inl (hin i hi), fun z hz => ?_⟩
    rcases hz with hz | hz
    · exact hall z hz
    · subst hz; exact Or.inr ⟨ho.1, l_le ho.2 (hne 4 (by omega))⟩
  · rw [if_neg hou]
    have key : ∀ a : Nat, a ≤ b.1 → a ≤ 4 → (a = b.1 ∨ (b.1 = 5 ∧ a = 4 ∧ p < b.2 4)) → TopS (fun z => S z ∨ z = p) (a + 1, offA b.2 p a) := by
      intro a hab ha4 hc
      obtain ⟨t, t1, t2, t3, t4, t5⟩ := offA_spec p a b.2 (fun i j hi hj => hs i j hi (by omega)) (fun i hi => hne i (by omega))
      refine ⟨by show a + 1 ≤ 5; omega, fun i j hi hj => ?_, fun i hi => ?_, fun z hz => ?_⟩
      · have hj' : j < a + 1 := hj
        show offA b.2 p a i < offA b.2 p a j
        rcases Nat.lt_trichotomy i t with hit | hit | hit
        · rcases Nat.lt_trichotomy j t with hjt | hjt | hjt
          · rw [(t2 i hit).1, (t2 j hjt).1]; exact hs i j hi (by omega)
          · rw [hjt, (t2 i hit).1, t3]; exact (t2 i hit).2
          · rw [(t2 i hit).1, (t4 j hjt (by omega)).1]; exact l_tr (t2 i hit).2 (t4 j hjt (by omega)).2
        · have hjt : t < j := by omega
          rw [hit, t3, (t4 j hjt (by omega)).1]; exact (t4 j hjt (by omega)).2
        · have hjt : t < j := by omega
          rw [(t4 i hit (by omega)).1, (t4 j hjt (by omega)).1]; exact hs (i - 1) (j - 1) (by omega) (by omega)
      · have hi' : i < a + 1 := hi
        show S (offA b.2 p a i) ∨ offA b.2 p a i = p
        rcases Nat.lt_trichotomy i t with hit | hit | hit
        · rw [(t2 i hit).1]; exact Or.inl (hin i (by omega))
        · rw [hit]; exact Or.inr t3
        · rw [(t4 i hit (by omega)).1]; exact Or.inl (hin (i - 1) (by omega))
      · have old : ∀ i, i < a → ∃ j, j < a + 1 ∧ offA b.2 p a j = b.2 i := by
          intro i hi
          by_cases hit : i < t
          · exact ⟨i, by omega, (t2 i hit).1⟩
          · exact ⟨i + 1, by omega, (t4 (i + 1) (by omega) (by omega)).1⟩
        rcases hz with hz | hz
        · rcases hall z hz with ⟨i, hi, he⟩ | ⟨hz1, hz2⟩
          · by_cases hia : i < a
            · obtain ⟨j, j1, j2⟩ := old i hia
              exact Or.inl ⟨j, j1, j2.trans he⟩
            · rcases hc with hc | ⟨c1, c2, c3⟩
              · omega
              · have hi4 : i = 4 := by omega
                subst hi4
                refine Or.inr ⟨by show a + 1 = 5; omega, ?_⟩
                show offA b.2 p a 4 < z
                rw [← he]
                by_cases ht4 : t = 4
                · rw [← ht4, t3, ht4]; exact c3
                · rw [(t4 4 (by omega) (by omega)).1]; exact hs 3 4 (by omega) (by omega)
          · rcases hc with hc | ⟨c1, c2, c3⟩
            · omega
            · refine Or.inr ⟨by show a + 1 = 5; omega, ?_⟩
              show offA b.2 p a 4 < z
              by_cases ht4 : t = 4
              · rw [← ht4, t3]; exact l_tr c3 hz2
              · rw [(t4 4 (by omega) (by omega)).1]; exact l_tr (hs 3 4 (by omega) (by omega)) hz2
        · exact Or.inl ⟨t, by show t < a + 1; omega, by rw [hz]; exact t3⟩
    by_cases hk : b.1 < 5
    · rw [if_pos hk]; exact key b.1 (Nat.le_refl _) (by omega) (Or.inl rfl)
    · rw [if_neg hk]
      have h5' : b.1 = 5 := by omega
      have hlt : p < b.2 4 := l_nle (fun hh => hou ((ouR_iff h5).mpr ⟨h5', hh⟩))
      have := key 4 (by omega) (Nat.le_refl _) (Or.inr ⟨h5', rfl, hlt⟩)
      rw [h5']; exact this
/-- the five best are told by the set alone -/
theorem TopS_u {S : Int64 → Prop} {b c : BT} (hb : TopS S b) (hc : TopS S c) : b.1 = c.1 ∧ ∀ i, i < b.1 → b.2 i = c.2 i := by
  have lt : ∀ (b c : BT), TopS S b → TopS S c → ∀ i, (∀ j, j < i → b.2 j = c.2 j) → i < b.1 → i < c.1 → ¬ b.2 i < c.2 i := by
    intro b c hb hc i hj hib hic hlt
    rcases hc.2.2.2 _ (hb.2.2.1 i hib) with ⟨j, j1, j2⟩ | ⟨j1, j2⟩
    · by_cases hji : j < i
      · have := hb.2.1 j i hji hib
        rw [hj j hji, j2] at this
        exact l_irr this
      · by_cases hij : i = j
        · rw [← hij] at j2; rw [j2] at hlt; exact l_irr hlt
        · have := hc.2.1 i j (by omega) j1
          rw [j2] at this
          exact l_irr (l_tr hlt this)
    · by_cases hi4 : i = 4
      · rw [hi4] at hlt j2; exact l_irr (l_tr hlt j2)
      · have := hc.2.1 i 4 (by have := hc.1; omega) (by omega)
        exact l_irr (l_tr (l_tr hlt this) j2)
  have eq : ∀ n i, i < n → i < b.1 → i < c.1 → b.2 i = c.2 i := by
    intro n
    induction n with
    | zero => intro i h; omega
    | succ n ih =>
      intro i hi hib hic
      have hj : ∀ j, j < i → b.2 j = c.2 j := fun j hj => ih j (by omega) (by omega) (by omega)
      rcases l_tri (b.2 i) (c.2 i) with z | z | z
      · exact absurd z (lt b c hb hc i hj hib hic)
      · exact z
      · exact absurd z (lt c b hc hb i (fun j h => (hj j h).symm) hic hib)
  have len : ∀ (b c : BT), TopS S b → TopS S c → (∀ i, i < b.1 → i < c.1 → b.2 i = c.2 i) → ¬ b.1 < c.1 := by
    intro b c hb hc he hlt
    rcases hb.2.2.2 _ (hc.2.2.1 b.1 hlt) with ⟨j, j1, j2⟩ | ⟨j1, -⟩
    · have := hc.2.1 j b.1 j1 hlt
      rw [← he j j1 (by omega), j2] at this
      exact l_irr this
    · have := hc.1; omega
  have h1 : b.1 = c.1 := by
    have z1 := len b c hb hc (fun i h1 h2 => eq (i + 1) i (by omega) h1 h2)
    have z2 := len c b hc hb (fun i h1 h2 => (eq (i + 1) i (by omega) h2 h1).symm)
    omega
  exact ⟨h1, fun i hi => eq (i + 1) i (by omega) hi (by omega)⟩
