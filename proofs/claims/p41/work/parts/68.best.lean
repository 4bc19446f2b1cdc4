/-! the law's five best: kept by least and greatest -/
abbrev MX : Int64 := 9223372036854775807
def insB : Nat → Nat → Int64 → (Nat → Int64) → Nat → Int64
  | 0, _, _, B => B
  | m + 1, k, p, B => insB m (k + 1) (if B k < p then p else B k) (vp_updL B k (if B k < p then B k else p))
theorem updL_self (B : Nat → Int64) (k : Nat) : vp_updL B k (B k) = B := by
  funext j
  by_cases h : j = k
  · subst h; exact pk_uLs
  · exact pk_uLn h
theorem insB_low (p : Int64) (B : Nat → Int64) : ∀ m k, (∀ j, k ≤ j → j < k + m → B j < p) → ∀ r, insB (m + r) k p B = insB r (k + m) p B
  | 0, k, _, r => by rw [Nat.zero_add, Nat.add_zero]
  | m + 1, k, h, r => by
    rw [show m + 1 + r = (m + r) + 1 by omega, insB, if_pos (h k (Nat.le_refl k) (by omega)), if_pos (h k (Nat.le_refl k) (by omega)), updL_self, insB_low p B m (k + 1) (fun j h1 h2 => h j (by omega) (by omega)) r, show k + 1 + m = k + (m + 1) by omega]
theorem insB_up : ∀ (m k : Nat) (p : Int64) (B : Nat → Int64), k + m = 5 → (0 < m → p ≤ B k) → (∀ j, k ≤ j → j + 1 < 5 → B j ≤ B (j + 1)) → ∀ j, insB m k p B j = if j = k ∧ 0 < m then p else if k < j ∧ j < 5 then B (j - 1) else B j
  | 0, k, p, B, hm, _, _, j => by rw [insB, if_neg (by omega), if_neg (by omega)]
  | m + 1, k, p, B, hm, hp, hs, j => by
    have hn : ¬ B k < p := by
      have := hp (Nat.succ_pos m); rw [fa_le64] at this; rw [fa_lt64]; omega
    rw [insB, if_neg hn, if_neg hn]
    have g : ∀ i, ¬ i = k → vp_updL B k p i = B i := fun i hi => pk_uLn hi
    rw [insB_up m (k + 1) (B k) (vp_updL B k p) (by omega) (fun h0 => by rw [g _ (by omega)]; exact hs k (Nat.le_refl k) (by omega)) (fun i h1 h2 => by rw [g _ (by omega), g _ (by omega)]; exact hs i (by omega) h2)]
    by_cases h1 : j = k
    · subst h1
      rw [if_neg (by omega), if_neg (by omega), if_pos ⟨rfl, Nat.succ_pos m⟩]; exact pk_uLs
    · rw [if_neg (show ¬ (j = k ∧ 0 < m + 1) from fun z => h1 z.1)]
      by_cases h2 : j = k + 1 ∧ 0 < m
      · rw [if_pos h2, if_pos (by omega), h2.1]; rfl
      · rw [if_neg h2]
        by_cases h3 : k + 1 < j ∧ j < 5
        · rw [if_pos h3, if_pos (by omega)]; exact g _ (by omega)
        · rw [if_neg h3, if_neg (by omega)]; exact g _ h1
theorem insB_out (p : Int64) : ∀ (m k : Nat) (B : Nat → Int64) (j : Nat), k + m ≤ j → ∀ q, insB m k q B j = B j
  | 0, _, _, _, _, _ => rfl
  | m + 1, k, B, j, h, q => by
    rw [insB, insB_out p m (k + 1) _ j (by omega)]
    exact pk_uLn (by omega)
/-- the law's row holds the five best -/
def TM (S : Int64 → Prop) (B : Nat → Int64) : Prop := ∃ b : BT, TopS S b ∧ (∀ p, S p → p < MX) ∧ ∀ j, j < 5 → B j = if j < b.1 then b.2 j else MX
theorem TM_c {S S' : Int64 → Prop} {B B' : Nat → Int64} (e : ∀ p, S p ↔ S' p) (eB : ∀ j, j < 5 → B' j = B j) (h : TM S B) : TM S' B' := by
  obtain ⟨b, h1, h2, h3⟩ := h
  exact ⟨b, TopS_c e h1, fun p hp => h2 p ((e p).mpr hp), fun j hj => (eB j hj).trans (h3 j hj)⟩
theorem insB_at {p : Int64} {B : Nat → Int64} {t : Nat} (ht : t ≤ 5) (h1 : ∀ j, j < t → B j < p) (h2 : t < 5 → p ≤ B t) (hs : ∀ j, t ≤ j → j + 1 < 5 → B j ≤ B (j + 1)) (j : Nat) (hj : j < 5) : insB 5 0 p B j = if j = t then p else if t < j then B (j - 1) else B j := by
  have e := insB_low p B t 0 (fun j _ hj => h1 j (by omega)) (5 - t)
  rw [show t + (5 - t) = 5 by omega, Nat.zero_add] at e
  rw [e, insB_up (5 - t) t p B (by omega) (fun h0 => h2 (by omega)) hs]
  by_cases a : j = t
  · rw [if_pos a, if_pos ⟨a, by omega⟩]
  · rw [if_neg a, if_neg (fun z => a z.1)]
    by_cases c : t < j
    · rw [if_pos c, if_pos ⟨c, hj⟩]
    · rw [if_neg c, if_neg (fun z => c z.1)]
theorem TM_ins {S : Int64 → Prop} {B : Nat → Int64} {p : Int64} (h : TM S B) (hp : ¬ S p) (hM : p < MX) : TM (fun z => S z ∨ z = p) (insB 5 0 p B) := by
  obtain ⟨b, h1, h2, h3⟩ := h
  have ho := TopS_offer h1 hp
  obtain ⟨b5, bs, bin, ball⟩ := h1
  have hne : ∀ i, i < b.1 → ¬ b.2 i = p := fun i hi e => hp (e ▸ bin i hi)
  have hB : ∀ j, j < b.1 → B j = b.2 j := fun j hj => by rw [h3 j (by omega), if_pos hj]
  have hB2 : ∀ j, b.1 ≤ j → j < 5 → B j = MX := fun j hj h5 => by rw [h3 j h5, if_neg (by omega)]
  have hsort : ∀ j, j + 1 < 5 → B j ≤ B (j + 1) := by
    intro j hj
    by_cases a : j + 1 < b.1
    · rw [hB j (by omega), hB _ a]; exact l_ltle (bs j (j + 1) (by omega) a)
    · rw [hB2 (j + 1) (by omega) hj]
      by_cases c : j < b.1
      · rw [hB j c]; exact l_ltle (h2 _ (bin j c))
      · rw [hB2 j (by omega) (by omega), fa_le64]; exact Int.le_refl _
  refine ⟨offerB b p, ho, fun z hz => hz.elim (h2 z) (fun e => e ▸ hM), fun j hj => ?_⟩
  unfold offerB
  by_cases hou : ouR (nI b.1) b.2 p
  · rw [if_pos hou]
    have o := (ouR_iff b5).mp hou
    have hlow : ∀ j, j < 5 → B j < p := by
      intro i hi
      have h4 : b.2 4 < p := l_le o.2 (hne 4 (by omega))
      rw [hB i (by omega)]
      by_cases e : i = 4
      · rw [e]; exact h4
      · exact l_tr (bs i 4 (by omega) (by omega)) h4
    rw [insB_at (t := 5) (Nat.le_refl 5) hlow (fun z => absurd z (by decide)) (fun i h1 h2 => by omega) j hj, if_neg (by omega), if_neg (by omega)]
    exact h3 j hj
  · rw [if_neg hou]
    have key : ∀ a : Nat, a ≤ b.1 → a ≤ 4 → (a = b.1 ∨ (b.1 = 5 ∧ a = 4 ∧ p < b.2 4)) → insB 5 0 p B j = if j < a + 1 then offA b.2 p a j else MX := by
      intro a hab ha4 hc
      obtain ⟨t, t1, t2, t3, t4, t5⟩ := offA_spec p a b.2 (fun i j hi hj => bs i j hi (by omega)) (fun i hi => hne i (by omega))
      have hlow : ∀ i, i < t → B i < p := fun i hi => by rw [hB i (by omega)]; exact (t2 i hi).2
      have hup : p ≤ B t := by
        by_cases hta : t < a
        · rw [hB t (by omega)]
          have := (t4 (t + 1) (by omega) (by omega)).2
          rw [Nat.add_sub_cancel] at this; exact l_ltle this
        · have hte : t = a := by omega
          rcases hc with hc | ⟨c1, c2, c3⟩
          · rw [hB2 t (by omega) (by omega)]; exact l_ltle hM
          · rw [hB t (by omega), hte, c2]; exact l_ltle c3
      rw [insB_at (by omega) hlow (fun _ => hup) (fun i _ h5 => hsort i h5) j hj]
      by_cases e1 : j = t
      · rw [if_pos e1, if_pos (by omega), e1, t3]
      · rw [if_neg e1]
        by_cases e2 : t < j
        · rw [if_pos e2]
          by_cases e3 : j < a + 1
          · rw [if_pos e3, (t4 j e2 (by omega)).1, hB (j - 1) (by omega)]
          · rw [if_neg e3]
            rcases hc with hc | ⟨c1, c2, c3⟩
            · exact hB2 (j - 1) (by omega) (by omega)
            · omega
        · rw [if_neg e2, if_pos (by omega), (t2 j (by omega)).1]; exact hB j (by omega)
    by_cases hk : b.1 < 5
    · rw [if_pos hk]; exact key b.1 (Nat.le_refl _) (by omega) (Or.inl rfl)
    · rw [if_neg hk]
      have h5' : b.1 = 5 := by omega
      have hlt : p < b.2 4 := l_nle (fun hh => hou ((ouR_iff b5).mpr ⟨h5', hh⟩))
      have := key 4 (by omega) (Nat.le_refl _) (Or.inr ⟨h5', rfl, hlt⟩)
      rw [this, h5']
/-- the order in which the law goes through the charts -/
def tauL (u : Nat) : Nat := idx (u % 9 / 3) (u % 9 % 3) (u / 9 / 343) (u / 9 / 49 % 7) (u / 9 / 7 % 7) (u / 9 % 7)
def uix (x y c s w : Nat) : Nat := 9 * (343 * x + 49 * y + 7 * c + s) + w
theorem tauL_d {u : Nat} (h : u < 21609) : dgt (u % 9 / 3) (u % 9 % 3) (u / 9 / 343) (u / 9 / 49 % 7) (u / 9 / 7 % 7) (u / 9 % 7) := by
  refine ⟨?_, ?_, ?_, ?_, ?_, ?_⟩ <;> omega
theorem tauL_uix {x y c s w : Nat} (hy : y < 7) (hc : c < 7) (hs : s < 7) (hw : w < 9) : tauL (uix x y c s w) = idx (w / 3) (w % 3) x y c s := by
  unfold tauL uix
  rw [show (9 * (343 * x + 49 * y + 7 * c + s) + w) % 9 = w by omega, show (9 * (343 * x + 49 * y + 7 * c + s) + w) / 9 = 343 * x + 49 * y + 7 * c + s by omega,
    show (343 * x + 49 * y + 7 * c + s) / 343 = x by omega, show (343 * x + 49 * y + 7 * c + s) / 49 % 7 = y by omega, show (343 * x + 49 * y + 7 * c + s) / 7 % 7 = c by omega, show (343 * x + 49 * y + 7 * c + s) % 7 = s by omega]
theorem tauL_lt {u : Nat} (h : u < 21609) : tauL u < 21609 := (t_idx (tauL_d h)).2.2.2.2.2.2
theorem tauL_inj {u v : Nat} (hu : u < 21609) (hv : v < 21609) (h : tauL u = tauL v) : u = v := by
  have a := t_idx (tauL_d hu)
  have b := t_idx (tauL_d hv)
  have e : idx (u % 9 / 3) (u % 9 % 3) (u / 9 / 343) (u / 9 / 49 % 7) (u / 9 / 7 % 7) (u / 9 % 7) = idx (v % 9 / 3) (v % 9 % 3) (v / 9 / 343) (v / 9 / 49 % 7) (v / 9 / 7 % 7) (v / 9 % 7) := h
  rw [e] at a
  obtain ⟨a1, a2, a3, a4, a5, a6, -⟩ := a
  obtain ⟨b1, b2, b3, b4, b5, b6, -⟩ := b
  have c1 := a1.symm.trans b1
  have c2 := a2.symm.trans b2
  have c3 := a3.symm.trans b3
  have c4 := a4.symm.trans b4
  have c5 := a5.symm.trans b5
  have c6 := a6.symm.trans b6
  omega
theorem tauL_on {t : Nat} (h : t < 21609) : ∃ u, u < 21609 ∧ tauL u = t := by
  obtain ⟨g1, g2, g3, g4, g5, g6⟩ := dgt_t h
  refine ⟨uix (d0 t) (d1 t) (d2 t) (d3 t) (3 * dm t + da t), by unfold uix; omega, ?_⟩
  rw [tauL_uix g4 g5 g6 (by omega), show (3 * dm t + da t) / 3 = dm t by omega, show (3 * dm t + da t) % 3 = da t by omega]
  exact idx_t t
section RANK
variable {fb co : Int32 → Int32}
/-- the law's place of a chart -/
def lkey (co : Int32 → Int32) (t : Nat) : Int64 := 100000 * (co (codI t)).toInt64 + (nI t).toInt64
theorem lkey_N {t C : Nat} (ht : t < 21609) (hC : C < 1048576) (e : co (codI t) = nI C) : lkey co t = lN (100000 * C + t) := by
  unfold lkey
  rw [e, nI_l (by omega), nI_l (by omega), show (100000 : Int64) = lN 100000 from rfl]
  show Int64.ofNat 100000 * Int64.ofNat C + Int64.ofNat t = Int64.ofNat _
  rw [← Int64.ofNat_mul, ← Int64.ofNat_add]
theorem lkey_lt (hc : coOK co) {t u : Nat} (ht : t < 21609) (hu : u < 21609) : lkey co t < lkey co u ↔ plI co t < plI co u := by
  obtain ⟨C, c1, c2⟩ := hc t ht
  obtain ⟨D, e1, e2⟩ := hc u hu
  rw [lkey_N ht c1 c2, lkey_N hu e1 e2, pk_lLT (by omega) (by omega)]
  unfold plI
  rw [c2, e2, show codI t = nI (codT t) from rfl, show codI u = nI (codT u) from rfl, p_lt_N c1 (codT_lt ht) e1 (codT_lt hu)]
  have hm : t < u ↔ codT t < codT u := by
    constructor
    · intro z; exact codT_mono hu z
    · intro z
      rcases Nat.lt_trichotomy t u with y | y | y
      · exact y
      · subst y; omega
      · have := codT_mono ht y; omega
  omega
theorem lkey_inj (hc : coOK co) {t u : Nat} (ht : t < 21609) (hu : u < 21609) (h : lkey co t = lkey co u) : t = u := by
  obtain ⟨C, c1, c2⟩ := hc t ht
  obtain ⟨D, e1, e2⟩ := hc u hu
  rw [lkey_N ht c1 c2, lkey_N hu e1 e2, fb_lN_inj (by omega) (by omega)] at h
  omega
theorem lkey_M (hc : coOK co) {t : Nat} (ht : t < 21609) : lkey co t < MX := by
  obtain ⟨C, c1, c2⟩ := hc t ht
  rw [lkey_N ht c1 c2, show MX = lN 9223372036854775807 from rfl, pk_lLT (by omega) (by decide)]
  omega
def SLu (fb co : Int32 → Int32) (u : Nat) (p : Int64) : Prop := ∃ v, v < u ∧ alI fb (tauL v) ∧ lkey co (tauL v) = p
/-- the law's row behind the first u charts -/
def RB (fb co : Int32 → Int32) (u : Nat) (B : Nat → Int64) : Prop := TM (SLu fb co u) B ∧ B 5 = lN (fb_ct (fun v => cb (alI fb (tauL v))) u)
theorem RB_0 {B : Nat → Int64} (h : ∀ j, j < 5 → B j = MX) (h5 : B 5 = 0) : RB fb co 0 B := by
  refine ⟨⟨(0, fun _ => 0), TopS_c (fun p => ⟨False.elim, fun ⟨v, hv, _⟩ => absurd hv (Nat.not_lt_zero v)⟩) (TopS_0 _), fun p ⟨v, hv, _⟩ => absurd hv (Nat.not_lt_zero v), fun j hj => by rw [h j hj, if_neg (Nat.not_lt_zero j)]⟩, h5⟩
theorem RB_skip {u : Nat} {B : Nat → Int64} (hn : ¬ alI fb (tauL u)) (h : RB fb co u B) : RB fb co (u + 1) B := by
  obtain ⟨h1, h2⟩ := h
  have e : ∀ p, SLu fb co u p ↔ SLu fb co (u + 1) p := by
    intro p
    constructor
    · rintro ⟨v, v1, v2⟩; exact ⟨v, by omega, v2⟩
    · rintro ⟨v, v1, v2, v3⟩
      by_cases hv : v = u
      · subst hv; exact absurd v2 hn
      · exact ⟨v, by omega, v2, v3⟩
  exact ⟨TM_c e (fun _ _ => rfl) h1, by rw [h2, ct_n (p := fun v => cb (alI fb (tauL v))) (cb_f hn)]⟩
theorem RB_step (hc : coOK co) {u : Nat} (hu : u < 21609) (ha : alI fb (tauL u)) {B : Nat → Int64} (h : RB fb co u B) : RB fb co (u + 1) (insB 5 0 (lkey co (tauL u)) (vp_updL B 5 (B 5 + 1))) := by
  obtain ⟨h1, h2⟩ := h
  have hnew : ¬ SLu fb co u (lkey co (tauL u)) := by
    rintro ⟨v, v1, -, v3⟩
    have := tauL_inj (by omega) hu (lkey_inj hc (tauL_lt (by omega)) (tauL_lt hu) v3)
    omega
  have h1' : TM (SLu fb co u) (vp_updL B 5 (B 5 + 1)) := TM_c (fun _ => Iff.rfl) (fun j hj => pk_uLn (by omega)) h1
  refine ⟨TM_c (fun p => ?_) (fun _ _ => rfl) (TM_ins h1' hnew (lkey_M hc (tauL_lt hu))), ?_⟩
  · constructor
    · rintro (⟨v, v1, v2⟩ | rfl)
      · exact ⟨v, by omega, v2⟩
      · exact ⟨u, by omega, ha, rfl⟩
    · rintro ⟨v, v1, v2, v3⟩
      by_cases hv : v = u
      · subst hv; exact Or.inr v3.symm
      · exact Or.inl ⟨v, by omega, v2, v3⟩
  · rw [insB_out (lkey co (tauL u)) 5 0 _ 5 (by decide), ct_y (p := fun v => cb (alI fb (tauL v))) (cb_t ha)]
    rw [show vp_updL B 5 (B 5 + 1) 5 = B 5 + 1 from pk_uLs, h2]
    exact (Int64.ofNat_add _ 1).symm
theorem RB_to {u v : Nat} {B : Nat → Int64} (h : RB fb co u B) (e : u = v) : RB fb co v B := e ▸ h
theorem RB_n {u : Nat} {B : Nat → Int64} (h : RB fb co u B) : ∀ n, (∀ j, j < n → ¬ alI fb (tauL (u + j))) → RB fb co (u + n) B
  | 0, _ => h
  | n + 1, hn => RB_skip (hn n (by omega)) (RB_n h n (fun j hj => hn j (by omega)))
/-- what the law's row says, beside the class's ranking -/
theorem RB_all (hc : coOK co) {B : Nat → Int64} (h : RB fb co 21609 B) {rk : BT} (hr : TopS (SN fb co 21609) rk) :
    rk.1 ≤ 5 ∧ (∃ T : Nat → Nat, ∀ j, j < rk.1 → T j < 21609 ∧ alI fb (T j) ∧ rk.2 j = plI co (T j) ∧ B j = lkey co (T j)) ∧ (∀ j, rk.1 ≤ j → j < 5 → B j = MX) ∧ B 5 = lN (fb_ct (fun t => cb (alI fb t)) 21609) := by
  obtain ⟨⟨b, b1, b2, b3⟩, h5⟩ := h
  have hex : ∀ j, ∃ t, j < rk.1 → t < 21609 ∧ alI fb t ∧ plI co t = rk.2 j := by
    intro j
    by_cases hj : j < rk.1
    · obtain ⟨t, t1, t2, t3⟩ := hr.2.2.1 j hj
      exact ⟨t, fun _ => ⟨t1, t2, t3⟩⟩
    · exact ⟨0, fun z => absurd z hj⟩
  have hT : ∃ T : Nat → Nat, ∀ j, j < rk.1 → T j < 21609 ∧ alI fb (T j) ∧ plI co (T j) = rk.2 j := ⟨fun j => Classical.choose (hex j), fun j => Classical.choose_spec (hex j)⟩
  obtain ⟨T, hT⟩ := hT
  have hc2 : TopS (SLu fb co 21609) (rk.1, fun j => lkey co (T j)) := by
    refine ⟨hr.1, fun i j hi hj => ?_, fun i hi => ?_, fun p hp => ?_⟩
    · have hj' : j < rk.1 := hj
      have := hr.2.1 i j hi hj'
      rw [← (hT i (by omega)).2.2, ← (hT j hj').2.2] at this
      exact (lkey_lt hc (hT i (by omega)).1 (hT j hj').1).mpr this
    · have hi' : i < rk.1 := hi
      obtain ⟨u, u1, u2⟩ := tauL_on (hT i hi').1
      exact ⟨u, u1, by rw [u2]; exact (hT i hi').2.1, by rw [u2]⟩
    · obtain ⟨v, v1, v2, v3⟩ := hp
      rcases hr.2.2.2 (plI co (tauL v)) ⟨tauL v, tauL_lt v1, v2, rfl⟩ with ⟨i, i1, i2⟩ | ⟨i1, i2⟩
      · refine Or.inl ⟨i, i1, ?_⟩
        have : T i = tauL v := plI_inj hc (hT i i1).1 (tauL_lt v1) ((hT i i1).2.2.trans i2)
        show lkey co (T i) = p
        rw [this]; exact v3
      · refine Or.inr ⟨i1, ?_⟩
        show lkey co (T 4) < p
        rw [← v3]
        refine (lkey_lt hc (hT 4 (by omega)).1 (tauL_lt v1)).mpr ?_
        rw [(hT 4 (by omega)).2.2]; exact i2
  obtain ⟨e1, e2⟩ := TopS_u b1 hc2
  have e1' : b.1 = rk.1 := e1
  refine ⟨hr.1, ⟨T, fun j hj => ⟨(hT j hj).1, (hT j hj).2.1, (hT j hj).2.2.symm, ?_⟩⟩, fun j hj hj5 => ?_, ?_⟩
  · have := hr.1
    rw [b3 j (by omega), if_pos (by omega)]; exact e2 j (by omega)
  · rw [b3 j hj5, if_neg (by omega)]
  · have e : fb_ct (fun t => cb (alI fb t)) 21609 = fb_ct (fun v => cb (alI fb (tauL v))) 21609 := ct_inj (τ := tauL) 21609 (fun t => cb (alI fb t)) (fun u hu => tauL_lt hu) (fun u v hu hv => tauL_inj hu hv) (fun t ht _ => tauL_on ht)
    rw [h5, e]
end RANK
