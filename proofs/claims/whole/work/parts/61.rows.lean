/-! the table's rows -/
def v6 (a b c d e f : Int32) (k : Nat) : Int32 := if k = 0 then a else if k = 1 then b else if k = 2 then c else if k = 3 then d else if k = 4 then e else f
section ROWS
variable {n : Nat} {A : Nat → Nat → Int32} {a b c d e f : Int32}
theorem ap_at (h40 : n < 40) {k r : Nat} (hk : k < 6) (hr : r < n + 1) : cv (apA A n a b c d e f) k r = if r = n then v6 a b c d e f k else cv A k r := by
  show upd (upd (upd (upd (upd (upd (A 2) (0 * 40 + n) a) (1 * 40 + n) b) (2 * 40 + n) c) (3 * 40 + n) d) (4 * 40 + n) e) (5 * 40 + n) f (k * 40 + r) = _
  rcases (show k = 0 ∨ k = 1 ∨ k = 2 ∨ k = 3 ∨ k = 4 ∨ k = 5 by omega) with rfl | rfl | rfl | rfl | rfl | rfl
  · by_cases h : r = n
    · subst h; rw [upd_at, if_neg (by omega), upd_at, if_neg (by omega), upd_at, if_neg (by omega), upd_at, if_neg (by omega), upd_at, if_neg (by omega), upd_at, if_pos rfl, if_pos rfl]; rfl
    · rw [upd_at, if_neg (by omega), upd_at, if_neg (by omega), upd_at, if_neg (by omega), upd_at, if_neg (by omega), upd_at, if_neg (by omega), upd_at, if_neg (by omega), if_neg h]; rfl
  · by_cases h : r = n
    · subst h; rw [upd_at, if_neg (by omega), upd_at, if_neg (by omega), upd_at, if_neg (by omega), upd_at, if_neg (by omega), upd_at, if_pos rfl, if_pos rfl]; rfl
    · rw [upd_at, if_neg (by omega), upd_at, if_neg (by omega), upd_at, if_neg (by omega), upd_at, if_neg (by omega), upd_at, if_neg (by omega), upd_at, if_neg (by omega), if_neg h]; rfl
  · by_cases h : r = n
    · subst h; rw [upd_at, if_neg (by omega), upd_at, if_neg (by omega), upd_at, if_neg (by omega), upd_at, if_pos rfl, if_pos rfl]; rfl
    · rw [upd_at, if_neg (by omega), upd_at, if_neg (by omega), upd_at, if_neg (by omega), upd_at, if_neg (by omega), upd_at, if_neg (by omega), upd_at, if_neg (by omega), if_neg h]; rfl
  · by_cases h : r = n
    · subst h; rw [upd_at, if_neg (by omega), upd_at, if_neg (by omega), upd_at, if_pos rfl, if_pos rfl]; rfl
    · rw [upd_at, if_neg (by omega), upd_at, if_neg (by omega), upd_at, if_neg (by omega), upd_at, if_neg (by omega), upd_at, if_neg (by omega), upd_at, if_neg (by omega), if_neg h]; rfl
  · by_cases h : r = n
    · subst h; rw [upd_at, if_neg (by omega), upd_at, if_pos rfl, if_pos rfl]; rfl
    · rw [upd_at, if_neg (by omega), upd_at, if_neg (by omega), upd_at, if_neg (by omega), upd_at, if_neg (by omega), upd_at, if_neg (by omega), upd_at, if_neg (by omega), if_neg h]; rfl
  · by_cases h : r = n
    · subst h; rw [upd_at, if_pos rfl, if_pos rfl]; rfl
    · rw [upd_at, if_neg (by omega), upd_at, if_neg (by omega), upd_at, if_neg (by omega), upd_at, if_neg (by omega), upd_at, if_neg (by omega), upd_at, if_neg (by omega), if_neg h]; rfl
theorem mad_at {g : Nat → Int32} {k r : Nat} (hk : k < 6) (hr : r < n + 1) : upd (upd (upd (upd (upd (upd g (6 * n) a) (6 * n + 1) b) (6 * n + 2) c) (6 * n + 3) d) (6 * n + 4) e) (6 * n + 5) f (6 * r + k) = if r = n then v6 a b c d e f k else g (6 * r + k) := by
  rcases (show k = 0 ∨ k = 1 ∨ k = 2 ∨ k = 3 ∨ k = 4 ∨ k = 5 by omega) with rfl | rfl | rfl | rfl | rfl | rfl
  · by_cases h : r = n
    · subst h; rw [upd_at, if_neg (by omega), upd_at, if_neg (by omega), upd_at, if_neg (by omega), upd_at, if_neg (by omega), upd_at, if_neg (by omega), upd_at, if_pos (by omega), if_pos rfl]; rfl
    · rw [upd_at, if_neg (by omega), upd_at, if_neg (by omega), upd_at, if_neg (by omega), upd_at, if_neg (by omega), upd_at, if_neg (by omega), upd_at, if_neg (by omega), if_neg h]
  · by_cases h : r = n
    · subst h; rw [upd_at, if_neg (by omega), upd_at, if_neg (by omega), upd_at, if_neg (by omega), upd_at, if_neg (by omega), upd_at, if_pos (by omega), if_pos rfl]; rfl
    · rw [upd_at, if_neg (by omega), upd_at, if_neg (by omega), upd_at, if_neg (by omega), upd_at, if_neg (by omega), upd_at, if_neg (by omega), upd_at, if_neg (by omega), if_neg h]
  · by_cases h : r = n
    · subst h; rw [upd_at, if_neg (by omega), upd_at, if_neg (by omega), upd_at, if_neg (by omega), upd_at, if_pos (by omega), if_pos rfl]; rfl
    · rw [upd_at, if_neg (by omega), upd_at, if_neg (by omega), upd_at, if_neg (by omega), upd_at, if_neg (by omega), upd_at, if_neg (by omega), upd_at, if_neg (by omega), if_neg h]
  · by_cases h : r = n
    · subst h; rw [upd_at, if_neg (by omega), upd_at, if_neg (by omega), upd_at, if_pos (by omega), if_pos rfl]; rfl
    · rw [upd_at, if_neg (by omega), upd_at, if_neg (by omega), upd_at, if_neg (by omega), upd_at, if_neg (by omega), upd_at, if_neg (by omega), upd_at, if_neg (by omega), if_neg h]
  · by_cases h : r = n
    · subst h; rw [upd_at, if_neg (by omega), upd_at, if_pos (by omega), if_pos rfl]; rfl
    · rw [upd_at, if_neg (by omega), upd_at, if_neg (by omega), upd_at, if_neg (by omega), upd_at, if_neg (by omega), upd_at, if_neg (by omega), upd_at, if_neg (by omega), if_neg h]
  · by_cases h : r = n
    · subst h; rw [upd_at, if_pos (by omega), if_pos rfl]; rfl
    · rw [upd_at, if_neg (by omega), upd_at, if_neg (by omega), upd_at, if_neg (by omega), upd_at, if_neg (by omega), upd_at, if_neg (by omega), upd_at, if_neg (by omega), if_neg h]
theorem remC_x : ∀ (m : Nat) (B : Nat → Nat → Int32) (k r : Nat), r + m < 40 → (∀ x, ¬ x = 2 → remC B k r m x = B x) ∧ ∀ c y, y < 40 → cv (remC B k r m) c y = if c = k ∧ r ≤ y ∧ y < r + m then cv B c (y + 1) else cv B c y
  | 0, B, k, r, _ => ⟨fun _ _ => rfl, fun c y _ => by rw [if_neg (by omega)]; rfl⟩
  | m + 1, B, k, r, h => by
    obtain ⟨h1, h2⟩ := remC_x m (st1 B k r (cv B k (r + 1))) k (r + 1) (by omega)
    rw [remC]
    refine ⟨fun x hx => ?_, fun c y hy => ?_⟩
    · rw [h1 x hx]
      show (if x = 2 then _ else B x) = B x
      rw [if_neg hx]
    · rw [h2 c y hy]
      by_cases h3 : c = k ∧ r + 1 ≤ y ∧ y < r + 1 + m
      · rw [if_pos h3, if_pos (by omega), st1_at (by omega) (by omega), if_neg (by omega)]
      · rw [if_neg h3, st1_at (by omega) hy]
        by_cases h4 : c = k ∧ y = r
        · rw [if_pos h4, if_pos (by omega), h4.1, h4.2]
        · rw [if_neg h4, if_neg (by omega)]
theorem remT_x {r m : Nat} (h : r + m < 40) : ∀ k, (∀ x, ¬ x = 2 → remT A r m k x = A x) ∧ ∀ c y, y < 40 → cv (remT A r m k) c y = if c < k ∧ r ≤ y ∧ y < r + m then cv A c (y + 1) else cv A c y
  | 0 => ⟨fun _ _ => rfl, fun c y _ => by rw [if_neg (by omega)]; rfl⟩
  | k + 1 => by
    obtain ⟨h1, h2⟩ := remT_x h k
    rw [remT]
    generalize remT A r m k = B at h1 h2
    obtain ⟨h3, h4⟩ := remC_x m B k r h
    refine ⟨fun x hx => (h3 x hx).trans (h1 x hx), fun c y hy => ?_⟩
    rw [h4 c y hy]
    by_cases q : c = k ∧ r ≤ y ∧ y < r + m
    · rw [if_pos q, if_pos (by omega), h2 c (y + 1) (by omega), if_neg (by omega)]
    · rw [if_neg q, h2 c y hy]
      by_cases q2 : c < k ∧ r ≤ y ∧ y < r + m
      · rw [if_pos q2, if_pos (by omega)]
      · rw [if_neg q2, if_neg (by omega)]
theorem mDrp_at : ∀ (m : Nat) (g : Nat → Int32) (k z : Nat), mDrp g k m z = if k ≤ z ∧ z < k + m then g (z + 6) else g z
  | 0, g, k, z => by rw [mDrp, if_neg (by omega)]
  | m + 1, g, k, z => by
    rw [mDrp, mDrp_at m]
    by_cases h : k + 1 ≤ z ∧ z < k + 1 + m
    · rw [if_pos h, if_pos (by omega), upd_at, if_neg (by omega)]
    · rw [if_neg h, upd_at]
      by_cases h2 : z = k
      · rw [if_pos h2, if_pos (by omega), h2]
      · rw [if_neg h2, if_neg (by omega)]
theorem Tbl_sm {I' : Nat → Int32} {A' B S : Nat → Nat → Int32} {L L' M : Nat → Nat → Int64} (hS : S = stA B n 6) (hM : M = stL B L n 6) (h40 : n ≤ 40) (i2 : I' 2 = nI n) (i20 : I' 20 = nI n) (a2 : A' 2 = S 2) (a3 : A' 3 = S 3) (a4 : A' 4 = S 4) (a5 : A' 5 = S 5) (a6 : A' 6 = S 6) (l7 : L' 7 = M 7) (l8 : L' 8 = M 8)
    (hcm : ∀ c r, c < 6 → r < n → cv B c r = mv A' c r) (hf : ∀ c, c < 6 → FK (B 3 c) (A' 23 c)) : Tbl n I' A' L' := by
  subst hS hM
  exact Tbl_st h40 i2 i20 a2 a3 a4 a5 a6 l7 l8 hcm hf
end ROWS
theorem add_rel {n : Nat} {I : Nat → Int32} {A S : Nat → Nat → Int32} {L M : Nat → Nat → Int64} {O : Nat → UInt64} {a b c d e f : Int32} {x35 : Nat → Int64} (hT : Tbl n I A L) (hW : Wsh I A) (hR : Rst I A) (hC : CaC (f_fb I A) (f_cost I A L) I L) (hc : n < 40) (hS : S = stA (apA A n a b c d e f) (n + 1) 6) (hM : M = stL (apA A n a b c d e f) L (n + 1) 6) :
    Rel (va_up (va_up (va_up (va_up (va_up I 2 (nI (n + 1))) 6 1) 26 0) 29 0) 20 (nI (n + 1))) (mAdd S n a b c d e f) (va_up M 35 x35) O := by
  have hx : ∀ x, ¬ x = 2 → ¬ x = 4 → ¬ x = 5 → ¬ x = 6 → S x = A x := by
    intro x x2 x4 x5 x6
    rw [hS, (stA_x _ _ 6).1 x x4 x5 x6]
    unfold apA
    show (if x = 2 then _ else if x = 2 then _ else if x = 2 then _ else if x = 2 then _ else if x = 2 then _ else if x = 2 then _ else A x) = A x
    rw [if_neg x2, if_neg x2, if_neg x2, if_neg x2, if_neg x2, if_neg x2]
  have hz : ∀ x, ¬ x = 2 → ¬ x = 4 → ¬ x = 5 → ¬ x = 6 → ¬ x = 22 → mAdd (S) n a b c d e f x = A x := by
    intro x x2 x4 x5 x6 x22
    show (if x = 22 then _ else S x) = A x
    rw [if_neg x22, hx x x2 x4 x5 x6]
  refine rel_st (n := n + 1) hC rfl rfl rfl (Tbl_sm (B := apA A n a b c d e f) (L := L) hS hM (by omega) rfl rfl rfl rfl rfl rfl rfl rfl rfl ?_ ?_) (Wsh_c rfl rfl rfl rfl rfl rfl (hz 11 (by decide) (by decide) (by decide) (by decide) (by decide)) (hz 24 (by decide) (by decide) (by decide) (by decide) (by decide)) (hz 27 (by decide) (by decide) (by decide) (by decide) (by decide)) (hz 28 (by decide) (by decide) (by decide) (by decide) (by decide)) hW)
    (Rst_c rfl rfl rfl rfl rfl (hz 18 (by decide) (by decide) (by decide) (by decide) (by decide)) (hz 20 (by decide) (by decide) (by decide) (by decide) (by decide)) (hz 30 (by decide) (by decide) (by decide) (by decide) (by decide)) (hz 31 (by decide) (by decide) (by decide) (by decide) (by decide)) (hz 34 (by decide) (by decide) (by decide) (by decide) (by decide)) hR)
  · intro k r hk hr'
    rw [ap_at hc hk hr']
    show _ = upd (upd (upd (upd (upd (upd (S 22) (6 * n) a) (6 * n + 1) b) (6 * n + 2) c) (6 * n + 3) d) (6 * n + 4) e) (6 * n + 5) f (6 * r + k)
    rw [mad_at hk hr', hx 22 (by decide) (by decide) (by decide) (by decide)]
    by_cases q : r = n
    · rw [if_pos q, if_pos q]
    · rw [if_neg q, if_neg q]; exact hT.2.2.2.1 k r hk (by omega)
  · intro k hk
    rw [hz 23 (by decide) (by decide) (by decide) (by decide) (by decide)]
    exact hT.2.2.2.2.1 k hk
theorem st_addRow {X : XS} : LStep X Rel 212 := by
  intro Q I A L O ii bC bS hX hi hr zc
  obtain ⟨n, hT, hW, hR, hC, hM⟩ := id hr
  refine opA_addRow hX hi hT.2.1 hT.1 (fun hc => ?_) (fun k1 hc => ?_) (fun k1 hc => ?_)
  · exact opB_addRow hX hi hT.2.2.1 hT.1 (fun _ => ⟨rfl, zc _ _ _ _ (rel_26 hr _)⟩) (fun h => absurd h hc) (fun h => absurd h hc)
  · exact opB_addRow hX hi hT.2.2.1 hT.1 (fun h => absurd k1 h) (fun _ _ => ⟨rfl, zc _ _ _ _ (rel_26 hr _)⟩) (fun _ h => absurd h (by omega))
  · refine opB_addRow hX hi hT.2.2.1 hT.1 (fun h => absurd k1 h) (fun _ h => absurd h (by omega)) (fun _ _ => ⟨rfl, rfl, zc _ _ _ _ ?_⟩)
    exact add_rel hT hW hR hC hc rfl rfl
theorem drop_rel {n j' k' : Nat} {I : Nat → Int32} {A S : Nat → Nat → Int32} {L M : Nat → Nat → Int64} {O : Nat → UInt64} {x35 : Nat → Int64} (hT : Tbl n I A L) (hW : Wsh I A) (hR : Rst I A) (hC : CaC (f_fb I A) (f_cost I A L) I L) (hj : j' ≤ k') (en : n = k' + 1) (hS : S = stA (remT A j' (k' - j') 6) k' 6) (hM : M = stL (remT A j' (k' - j') 6) L k' 6) :
    Rel (va_up (va_up (va_up (va_up (va_up I 2 (nI k')) 6 1) 26 0) 29 0) 20 (nI k')) (va_up S 22 (mDrp (S 22) (6 * j') (6 * k' - 6 * j'))) (va_up M 35 x35) O := by
  have h40 := hT.1
  obtain ⟨r1, r2⟩ := remT_x (A := A) (r := j') (m := k' - j') (by omega) 6
  have hx : ∀ x, ¬ x = 2 → ¬ x = 4 → ¬ x = 5 → ¬ x = 6 → S x = A x := by
    intro x x2 x4 x5 x6
    rw [hS, (stA_x _ _ 6).1 x x4 x5 x6, r1 x x2]
  have hz : ∀ x, ¬ x = 2 → ¬ x = 4 → ¬ x = 5 → ¬ x = 6 → ¬ x = 22 → va_up (S) 22 (mDrp (S 22) (6 * j') (6 * k' - 6 * j')) x = A x := by
    intro x x2 x4 x5 x6 x22
    show (if x = 22 then _ else S x) = A x
    rw [if_neg x22, hx x x2 x4 x5 x6]
  refine rel_st (n := k') hC rfl rfl rfl (Tbl_sm (B := remT A j' (k' - j') 6) (L := L) hS hM (by omega) rfl rfl rfl rfl rfl rfl rfl rfl rfl ?_ ?_) (Wsh_c rfl rfl rfl rfl rfl rfl (hz 11 (by decide) (by decide) (by decide) (by decide) (by decide)) (hz 24 (by decide) (by decide) (by decide) (by decide) (by decide)) (hz 27 (by decide) (by decide) (by decide) (by decide) (by decide)) (hz 28 (by decide) (by decide) (by decide) (by decide) (by decide)) hW)
    (Rst_c rfl rfl rfl rfl rfl (hz 18 (by decide) (by decide) (by decide) (by decide) (by decide)) (hz 20 (by decide) (by decide) (by decide) (by decide) (by decide)) (hz 30 (by decide) (by decide) (by decide) (by decide) (by decide)) (hz 31 (by decide) (by decide) (by decide) (by decide) (by decide)) (hz 34 (by decide) (by decide) (by decide) (by decide) (by decide)) hR)
  · intro c r hc hr'
    rw [r2 c r (by omega)]
    show _ = mDrp (S 22) (6 * j') (6 * k' - 6 * j') (6 * r + c)
    rw [hx 22 (by decide) (by decide) (by decide) (by decide), mDrp_at]
    by_cases q : c < 6 ∧ j' ≤ r ∧ r < j' + (k' - j')
    · rw [if_pos q, if_pos (by omega), hT.2.2.2.1 c (r + 1) hc (by omega)]
      show A 22 (6 * (r + 1) + c) = A 22 (6 * r + c + 6)
      congr 1; omega
    · rw [if_neg q, if_neg (by omega)]; exact hT.2.2.2.1 c r hc (by omega)
  · intro c hc
    rw [hz 23 (by decide) (by decide) (by decide) (by decide) (by decide), r1 3 (by decide)]
    exact hT.2.2.2.2.1 c hc
theorem st_dropRow {X : XS} : LStep X Rel 330 := by
  intro Q I A L O ii bC bS hX hi hr zc
  obtain ⟨n, hT, hW, hR, hC, hM⟩ := id hr
  have re := row_e hT.1 hT.2.1 (X.2 (ii + 1))
  have h40 := hT.1
  refine opA_dropRow hX hi hT.2.1 hT.1 (fun hc => ?_) (fun j m ej en hj => ?_)
  · exact opB_dropRow hX hi hT.2.2.1 hT.1 (fun _ => ⟨rfl, zc _ _ _ _ (rel_26 hr _)⟩) (fun j k ej en hj => absurd (re.mpr (by rw [ej]; exact inRow_n hT.1 (by omega))) hc)
  · have k1 : inRow n (X.2 (ii + 1)) := by rw [ej]; exact inRow_n hT.1 (by omega)
    refine opB_dropRow hX hi hT.2.2.1 hT.1 (fun h => absurd k1 h) (fun j' k' ej' en' hj' => ?_)
    have q1 : j' = j := by rw [ej, nI_eq (by omega) (by omega)] at ej'; exact ej'.symm
    have q2 : k' = m := by omega
    subst q1 q2
    refine ⟨rfl, rfl, zc _ _ _ _ ?_⟩
    exact drop_rel hT hW hR hC hj' en rfl rfl
