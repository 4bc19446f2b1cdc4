/-! what a chart is worth, told by rows of numbers: 22 the table, 24 the weights, 25 the kinds, 26 how many are different, 27 the wishes, 28 what is forbidden -/
def mv (A : Nat → Nat → Int32) (c r : Nat) : Int32 := A 22 (6 * r + c)
def m_kind (n u f r : Int32) : Int32 := if u < 2 then (if n = 0 then 0 else 1) else if 0 < f then f else if 4 ≤ n ∧ ¬ r = 0 then 2 else if u ≤ 6 ∧ 2 * u ≤ n then 3 else 4
def mkd (A : Nat → Nat → Int32) (n c : Nat) : Int32 := m_kind (stCnt (mv A c) n) (stDif (mv A c) n) (A 23 c) (stRis (mv A c) n)
def cntB (f : Nat → Int32) : Nat → Int32
  | 0 => 0
  | k + 1 => if f k = 0 then cntB f k + 0 else cntB f k + 1
def g_named (x : Int32) : Int32 := if x = 0 then 98 else if x = 1 then 108 else 112
def vch (f : Nat → Int32) : Prop := ∀ k, k < 4 → -1 ≤ f (2 + k) ∧ f (2 + k) < 6
def m_of (A : Nat → Nat → Int32) (f : Nat → Int32) (k : Nat) : Int32 := if f (2 + k) < 0 then -1 else A 25 (f (2 + k)).toNatClampNeg
def bv (p : Prop) [Decidable p] (v : Int32) : Int32 := if p then v else 0
abbrev wshC (A : Nat → Nat → Int32) (f : Nat → Int32) (e : Nat) : Prop := A 27 e = 0 ∨ f 2 = nI e ∨ f 3 = nI e ∨ f 4 = nI e ∨ f 5 = nI e
abbrev wshM (w : Int32) (A : Nat → Nat → Int32) (f : Nat → Int32) (c : Nat) : Prop := (w = 45 ∨ w = g_named (f 0)) ∧ ∀ e, e < c → wshC A f e
abbrev m_dd (A : Nat → Nat → Int32) (f : Nat → Int32) (k : Nat) : Prop := 0 ≤ m_of A f k ∧ m_of A f k ≤ 1
abbrev m_oo (A : Nat → Nat → Int32) (f : Nat → Int32) (k : Nat) : Prop := 0 ≤ f (2 + k) ∧ ¬ A 28 (4 * (f (2 + k)).toNatClampNeg + k) = 0
abbrev m_dead (A : Nat → Nat → Int32) (f : Nat → Int32) : Prop := ((m_dd A f 0 ∨ m_dd A f 1) ∨ m_dd A f 2) ∨ m_dd A f 3
abbrev m_off (A : Nat → Nat → Int32) (f : Nat → Int32) : Prop := ((m_oo A f 0 ∨ m_oo A f 1) ∨ m_oo A f 2) ∨ m_oo A f 3
abbrev m_grp (A : Nat → Nat → Int32) (f : Nat → Int32) : Prop := m_of A f 0 = 3 ∨ m_of A f 0 = 2
abbrev m_b4 (A : Nat → Nat → Int32) (f : Nat → Int32) : Prop := f 0 = 0 ∧ ¬ (m_grp A f ∧ (m_of A f 1 = 4 ∨ f 1 = 1))
abbrev m_b5 (A : Nat → Nat → Int32) (f : Nat → Int32) : Prop := f 0 = 1 ∧ ¬ ((m_of A f 0 = 2 ∨ m_of A f 0 = 4) ∧ (m_of A f 1 = 4 ∨ f 1 = 1))
def m_fb (w : Int32) (A : Nat → Nat → Int32) (f : Nat → Int32) : Int32 :=
  if (f 2 < 0 ∧ f 3 < 0) ∨ m_dead A f then (if m_dead A f ∧ (0 ≤ f 2 ∨ 0 ≤ f 3) then 2 else 1) else
  if 0 ≤ f 5 ∧ ¬ (m_of A f 3 = 4 ∧ f 0 = 2) then 3 else if m_b4 A f ∨ m_b5 A f then (if m_b4 A f then 4 else 5) else
  if f 1 = 1 ∧ 0 ≤ f 3 then 6 else if f 1 = 2 ∧ ¬ (m_of A f 1 = 4 ∧ m_grp A f) then 7 else if m_off A f then 8 else if wshM w A f 6 then 0 else 9
abbrev m_nch (f : Nat → Int32) : Int32 := ((((0 : Int32) + b2i (0 ≤ f 2)) + b2i (0 ≤ f 3)) + b2i (0 ≤ f 4)) + b2i (0 ≤ f 5)
def m_soft (w : Int32) (A : Nat → Nat → Int32) (f : Nat → Int32) : Int32 :=
  ((((((b2i (f 0 = 0 ∧ f 1 = 0) ||| bv (m_of A f 0 = 3 ∧ m_of A f 1 = 3) 2) ||| bv (m_of A f 2 = 4) 4) ||| bv (f 0 = 2 ∧ f 1 = 0 ∧ 20 < w) 8) ||| bv (f 0 = 2 ∧ ¬ f 1 = 0) 16) ||| bv (3 ≤ m_nch f) 32) ||| bv (m_of A f 2 = 3 ∧ 4 < A 26 (f 4).toNatClampNeg) 64) ||| bv (f 2 < 0 ∨ f 3 < 0) 128
abbrev m_gk (A : Nat → Nat → Int32) (f : Nat → Int32) (r k : Nat) : Prop := 0 ≤ f (2 + k) ∧ A 22 (6 * r + (f (2 + k)).toNatClampNeg) = -10000
abbrev m_gp (A : Nat → Nat → Int32) (f : Nat → Int32) (r : Nat) : Prop := ((m_gk A f r 0 ∨ m_gk A f r 1) ∨ m_gk A f r 2) ∨ m_gk A f r 3
def m_gap (A : Nat → Nat → Int32) (f : Nat → Int32) : Nat → Int32
  | 0 => 0
  | r + 1 => if m_gp A f r then m_gap A f r + 1 else m_gap A f r + 0
def addM (w : Nat → Int32) (s : Int32) : Nat → Nat → Int32 → Int32
  | 0, _, acc => acc
  | m + 1, k, acc => addM w s m (k + 1) (if ((s >>> (nI k &&& 31)) &&& 1) = 1 then acc + w k else acc + 0)
def m_base (A : Nat → Nat → Int32) (f : Nat → Int32) (n : Nat) : Int32 := (((m_gap A f n / 5 + b2i (m_of A f 0 = 3 ∨ m_of A f 0 = 4)) + bv (m_of A f 1 = 2 ∨ m_of A f 1 = 3) 2) + (if m_of A f 2 = 2 then 6 else if m_of A f 2 = 3 then 2 else if m_of A f 2 = 4 then 4 else 0)) + bv (m_of A f 3 = 4) 3
def m_cost (n : Nat) (A : Nat → Nat → Int32) (f : Nat → Int32) : Int32 := addM (A 24) (m_soft (nI n) A f) 8 0 (m_base A f n)
abbrev m_ds (f : Nat → Int32) (k j : Nat) : Prop := f k < 0 ∨ ¬ f k = f j
abbrev m_dst (f : Nat → Int32) : Prop := ((((m_ds f 3 2 ∧ m_ds f 4 2) ∧ m_ds f 4 3) ∧ m_ds f 5 2) ∧ m_ds f 5 3) ∧ m_ds f 5 4
theorem xI_in {s : Nat} (h : s < 7) : -1 ≤ xI s ∧ xI s < 6 := by
  have : ∀ z, z < 7 → -1 ≤ xI z ∧ xI z < 6 := by decide +kernel
  exact this s h
theorem b2i_not {p : Prop} [Decidable p] (h : ¬ ¬ p) : p := Classical.not_not.mp h

