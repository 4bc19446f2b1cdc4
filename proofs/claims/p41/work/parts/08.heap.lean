/-! rules that touch the heap; calls; a method's contract out of its walk -/
theorem XU_tbl {w : Cond} (h : w ∈ XU) : w ∈ lw_tbl := (List.mem_filter.mp h).1
theorem XU_good {w : Cond} (h : w ∈ XU) : goodWord w = true := (List.mem_filter.mp h).2
theorem GoodIn_XU {ws : List Cond} (h : ∀ w ∈ ws, w ∈ XU) : GoodIn XU ws := fun w hw => ⟨h w hw, good_of_word (XU_good (h w hw))⟩
def kOk (a : Nat) : Prop := kcl[a]? = some ((kC a).1, (kC a).2.1, (kC a).2.2) ∧ (∀ w ∈ u_ws (kC a).1 (kC a).2.1 (kC a).2.2, w ∈ XU) ∧ (∀ k, k < (kC a).2.2 → parseFieldDescriptor ((kC a).2.1 k).2.2.1 = some (kT a k)) ∧
  (∀ x, x < (kC a).2.2 → ∀ y, y < (kC a).2.2 → x ≠ y → ((kC a).2.1 x).2.1 ≠ ((kC a).2.1 y).2.1) ∧ Cond.instantiable (kC a).1 (kC a).2.2 ∈ XU ∧ Cond.initialized (kC a).1 ∈ XU ∧ ∀ k, k < (kC a).2.2 → ((kC a).2.1 k).1 = (kC a).1
theorem xu_of {ws : List Cond} (h : ∀ w ∈ ws, w ∈ tables_1 ∧ goodWord w = true) : ∀ w ∈ ws, w ∈ XU := fun w hw => xu_t (h w hw).1 (h w hw).2
set_option maxRecDepth 100000 in
theorem kOk0 : kOk 0 := ⟨rfl, xu_of (by decide +kernel), tyX0_ok, nmX0, xu_t (by decide +kernel) (by decide +kernel), xu_t (by decide +kernel) (by decide +kernel), by decide +kernel⟩
set_option maxRecDepth 100000 in
theorem kOk1 : kOk 1 := ⟨rfl, xu_of (by decide +kernel), tyX2_ok, nmX2, xu_t (by decide +kernel) (by decide +kernel), xu_t (by decide +kernel) (by decide +kernel), by decide +kernel⟩
set_option maxRecDepth 100000 in
theorem kOk2 : kOk 2 := ⟨rfl, xu_of (by decide +kernel), tyX3_ok, nmX3, xu_t (by decide +kernel) (by decide +kernel), xu_t (by decide +kernel) (by decide +kernel), by decide +kernel⟩
set_option maxRecDepth 100000 in
theorem kOk3 : kOk 3 := ⟨rfl, xu_of (by decide +kernel), tyX4_ok, nmX4, xu_t (by decide +kernel) (by decide +kernel), xu_t (by decide +kernel) (by decide +kernel), by decide +kernel⟩
set_option maxRecDepth 100000 in
theorem kOk4 : kOk 4 := ⟨rfl, xu_of (by decide +kernel), tyX6_ok, nmX6, xu_t (by decide +kernel) (by decide +kernel), xu_t (by decide +kernel) (by decide +kernel), by decide +kernel⟩
set_option maxRecDepth 100000 in
theorem kOk5 : kOk 5 := ⟨rfl, xu_of (by decide +kernel), tyX7_ok, nmX7, xu_t (by decide +kernel) (by decide +kernel), xu_t (by decide +kernel) (by decide +kernel), by decide +kernel⟩
set_option maxRecDepth 100000 in
theorem kOk6 : kOk 6 := ⟨rfl, xu_of (by decide +kernel), tyX8_ok, nmX8, xu_t (by decide +kernel) (by decide +kernel), xu_t (by decide +kernel) (by decide +kernel), by decide +kernel⟩
set_option maxRecDepth 100000 in
theorem kOk7 : kOk 7 := ⟨rfl, xu_of (by decide +kernel), tyX9_ok, nmX9, xu_t (by decide +kernel) (by decide +kernel), xu_t (by decide +kernel) (by decide +kernel), by decide +kernel⟩
theorem kok (a : Nat) (h : a < 8) : kOk a := by
  match a, h with
  | 0, _ => exact kOk0
  | 1, _ => exact kOk1
  | 2, _ => exact kOk2
  | 3, _ => exact kOk3
  | 4, _ => exact kOk4
  | 5, _ => exact kOk5
  | 6, _ => exact kOk6
  | 7, _ => exact kOk7
  | a + 9, h => exact absurd h (by omega)
theorem dN_ok (i : Nat) (h : i < 151) : dN (mD i) = (mY i).cls := by
  have h1 := (yw i h).1
  simp only [yb, Bool.and_eq_true, decide_eq_true_eq] at h1
  exact h1.2
theorem dN_ok2 (i : Nat) (h : i < 152) : dN (mD i) = (mY i).cls := by
  by_cases e : i = 151
  · subst e; decide +kernel
  · exact dN_ok i (by omega)
/-- a link word of a method, before it runs -/
theorem lk_bef {mi : Nat} {e : Nat × Nat × Nat × Nat} {s : State} {args : Array Value} (hm : mi < 152) (h : (lks (mD mi)).contains e = true) (h8 : e.2.1 < 8) (hts : ∀ w ∈ XU, w.before args s = true) : (lkw (mD mi) e).before args s = true := by
  rcases lk_ok (mD mi) e (by simpa using h) with h1 | ⟨h1, h2⟩
  · exact hts _ h1
  · exact absurd h1 (by omega)
def nstB (w : Cond) : Bool := match w with
  | .fieldLinkNest .. => true
  | .methodLinkNest .. => true
  | _ => false
theorem nst_in : ∀ (c : Nat) (e : Nat × Nat × Nat × Nat), e ∈ lks c → (e.2.1 = 8 ∨ e.2.1 = 9) → lkw c e ∈ NGL := by
  intro c e he h8
  have key : ∀ c, c < 14 → ∀ e ∈ lks c, (e.2.1 = 8 ∨ e.2.1 = 9) → lkw c e ∈ NGL := by
    intro c hc e he h8
    have h1 : lkw c e ∈ XU ∨ (8 ≤ e.2.1 ∧ lkw c e ∈ tables_1) := lk_ok c e he
    have hng : isNG (lkw c e) = true := by
      obtain ⟨i, k, a, b⟩ := e
      rcases h8 with h8 | h8
      · simp only at h8; subst h8; rfl
      · simp only at h8; subst h8; rfl
    have hgw : goodWord (lkw c e) = false := by
      obtain ⟨i, k, a, b⟩ := e
      rcases h8 with h8 | h8
      · simp only at h8; subst h8; rfl
      · simp only at h8; subst h8; rfl
    rcases h1 with h1 | ⟨-, h2⟩
    · have h3 := XU_good h1
      rw [hgw] at h3
      cases h3
    · exact List.mem_filter.mpr ⟨h2, hng⟩
  by_cases hc : c < 14
  · exact key c hc e he h8
  · have : lks c = [] := by
      unfold lks
      simp only [List.getD_eq_getElem?_getD]
      rw [List.getElem?_eq_none (by simp [lkl]; omega)]
      rfl
    rw [this] at he
    cases he
def gfB (mi pc i a b : Nat) : Bool := decide (mi < 152) && decide (decode (mB mi) pc = .ok (.getfield i, 3)) && (lks (mD mi)).contains (i, 0, a, b) && decide (a < 8) && decide (b < (kC a).2.2)
def pfB (mi pc i a b : Nat) : Bool := decide (mi < 152) && decide (decode (mB mi) pc = .ok (.putfield i, 3)) && (lks (mD mi)).contains (i, 0, a, b) && decide (a < 8) && decide (b < (kC a).2.2) && (!((kC a).2.1 b).2.2.2 || (decide ((mY mi).name = "<init>") && decide ((kC a).1 = (mY mi).cls)))
def gsB (mi pc i a n : Nat) : Bool := decide (mi < 152) && decide (decode (mB mi) pc = .ok (.getstatic i, 3)) && (lks (mD mi)).contains (i, n, a, 0) && decide (a < 3) && (decide (n = 1) || decide (n = 8))
theorem tv_narrow {ty : FieldType} {v : Value} {ad : Nat → Nat} (h : narrow ty v = v) : narrow ty (tv ad v) = tv ad v := by
  cases v <;> first | exact h | (cases ty <;> rfl)
theorem tv_fits {ty : FieldType} {v : Value} {ad : Nat → Nat} (h : fits ty v = true) : fits ty (tv ad v) = true := by
  cases v <;> first | exact h | (cases ty <;> first | exact h | rfl)
section HEAP
variable {X : XS} {mi pc : Nat} {lv : List (Nat × Value)} {rest : List Value} {h : AH} {bc bs : Nat} {Q : AO → AH → Prop}
theorem a_getfield {i a b o : Nat} {fs : List Value} {v : Value} (q : gfB mi pc i a b = true) (ho : h[o]? = some (.inl (a, fs))) (hv : fs[b]? = some v) (k : AW X mi (pc + 3) lv (v :: rest) h bc bs Q) : AW X mi pc lv (.ref o :: rest) h bc bs Q := by
  intro n0 p l e R s m args below meth c β D dA ad0 sa Qf C ad H locs cells slots ls ha hn hR hl hc hs
  simp only [gfB, Bool.and_eq_true, decide_eq_true_eq] at q
  obtain ⟨⟨⟨⟨hm, d⟩, hlk⟩, ha9⟩, hb⟩ := q
  obtain ⟨hk1, hk2, -, -, -, -, hk7⟩ := kok a ha9
  have hlink := lk_bef hm hlk (Nat.le_of_ble_eq_true rfl) C.2.2.2.2.1
  refine va_get C.1 C.2.1 C.2.2.2.2.1 hk2 C.2.2.2.1 C.2.2.2.2.2.2.1.1 hR.1 o (cW_get ho) hk1 b hb (by rw [← dN_ok2 mi hm]; exact hlink) (fun x hx => by rw [hk7 b hb] at hx; exact hx) (v := tv ad v) (by rw [List.getElem?_map, hv]; rfl) d ?_
  exact k n0 p l e R s m args below meth c β D dA ad0 sa Qf C ad H locs cells slots ls ha hn hR hl hc hs
theorem a_putfield {i a b o : Nat} {fs : List Value} {v : Value} (q : pfB mi pc i a b = true) (ho : h[o]? = some (.inl (a, fs))) (hnr : narrow (kT a b) v = v) (hft : fits (kT a b) v = true) (hbl : Nat.ble (b + 1) fs.length = true) (k : AW X mi (pc + 3) lv rest (h.set o (.inl (a, fs.set b v))) bc bs Q) : AW X mi pc lv (v :: .ref o :: rest) h bc bs Q := by
  intro n0 p l e R s m args below meth c β D dA ad0 sa Qf C ad H locs cells slots ls ha hn hR hl hc hs
  simp only [pfB, Bool.and_eq_true, decide_eq_true_eq] at q
  obtain ⟨⟨⟨⟨⟨hm, d⟩, hlk⟩, ha9⟩, hb⟩, hfin⟩ := q
  obtain ⟨hk1, hk2, hk3, hk4, -, -, hk7⟩ := kok a ha9
  have hlink := lk_bef hm hlk (Nat.le_of_ble_eq_true rfl) C.2.2.2.2.1
  have hlink' : (Cond.fieldLink (mY mi).cls i (kC a).1 ((kC a).2.1 b).2.1 ((kC a).2.1 b).2.2.1).before args s = true := by rw [← dN_ok2 mi hm]; exact hlink
  have hnr' : narrow (kT a b) (tv ad v) = tv ad v := tv_narrow hnr
  have hft' : fits (kT a b) (tv ad v) = true := tv_fits hft
  have hbl' : b < (fs.map (tv ad)).length := by rw [List.length_map]; exact Nat.le_of_ble_eq_true hbl
  have hw : (cW dA ad h).set o (ad o, .inr (a, (fs.map (tv ad)).set b (tv ad v))) = cW dA ad (h.set o (.inl (a, fs.set b v))) := by
    rw [← cW_set]
    simp [cE, List.map_set]
  cases hf : ((kC a).2.1 b).2.2.2 with
  | false =>
    refine va_put C.1 C.2.1 C.2.2.2.2.1 hk2 (kT a) hk3 hk4 C.2.2.2.1 C.2.2.2.2.2.2.1.1 hR.1 hR.2.1 hR.2.2 o (cW_get ho) hk1 b hb hlink' (fun x hx => by rw [hk7 b hb] at hx; exact hx) hf (hk3 b hb) hnr' hft' hbl' d (fun H1 locs1 hP1 hD1 hS1 => ?_)
    rw [hw] at hP1 hD1
    exact k n0 p l e R s m args below meth c β D dA ad0 sa Qf C ad H1 locs1 cells slots ls ha (by rw [List.length_set]; exact hn) ⟨hP1, hD1, hS1⟩ hl hc hs
  | true =>
    rw [hf] at hfin
    simp only [Bool.not_true, Bool.false_or, Bool.and_eq_true, decide_eq_true_eq] at hfin
    refine va_putF C.1 C.2.1 C.2.2.2.2.1 hk2 (kT a) hk3 hk4 C.2.2.2.1 C.2.2.2.2.2.2.1.1 hR.1 hR.2.1 hR.2.2 o (cW_get ho) hk1 b hb hlink' (fun x hx => by rw [hk7 b hb] at hx; exact hx) hf (C.2.2.2.2.2.2.2.2.1 hfin.1) (by rw [hk7 b hb]; exact hfin.2) (hk3 b hb) hnr' hft' hbl' d (fun H1 locs1 hP1 hD1 hS1 => ?_)
    rw [hw] at hP1 hD1
    exact k n0 p l e R s m args below meth c β D dA ad0 sa Qf C ad H1 locs1 cells slots ls ha (by rw [List.length_set]; exact hn) ⟨hP1, hD1, hS1⟩ hl hc hs
theorem a_getstatic {i a n : Nat} (q : gsB mi pc i a n = true) (k : AW X mi (pc + 3) lv (.ref (1000 + a) :: rest) h bc bs Q) : AW X mi pc lv rest h bc bs Q := by
  intro n0 p l e R s m args below meth c β D dA ad0 sa Qf C ad H locs cells slots ls ha hn hR hl hc hs
  simp only [gsB, Bool.and_eq_true, Bool.or_eq_true, decide_eq_true_eq] at q
  obtain ⟨⟨⟨⟨hm, d⟩, hlk⟩, ha3⟩, hn8⟩ := q
  have hsa : ∃ z, saN[a]? = some z ∧ saN.getD a ("", "", "") = z := ⟨saN.getD a ("", "", ""), by rcases (show a = 0 ∨ a = 1 ∨ a = 2 by omega) with rfl | rfl | rfl <;> rfl, rfl⟩
  obtain ⟨⟨SC, n1, d1⟩, hz1, hz2⟩ := hsa
  have hZ := C.2.2.2.2.2.2.1.2.2.1 a _ hz1
  have hadk : ad (1000 + a) = ad0 (1000 + a) := ha.2 _ (Or.inr (by omega))
  rcases hn8 with rfl | rfl
  · have hlink := lk_bef hm hlk (Nat.le_of_ble_eq_true rfl) C.2.2.2.2.1
    simp only [lkw, hz2] at hlink
    rw [dN_ok2 mi hm] at hlink
    refine va_gets C.1 C.2.1 hZ hR.2.2 C.2.2.2.1 hlink (fun x hx => hx) d ?_
    rw [← hadk]
    exact k n0 p l e R s m args below meth c β D dA ad0 sa Qf C ad H locs cells slots ls ha hn hR hl hc hs
  · have hin := nst_in (mD mi) (i, 8, a, 0) (by simpa using hlk) (Or.inl rfl)
    have hlink := C.2.2.2.2.2.2.1.2.2.2.2.2.2.1 _ hin
    simp only [lkw, hz2] at hlink
    rw [dN_ok2 mi hm] at hlink
    refine va_getsN C.1 C.2.1 hZ hR.2.2 C.2.2.2.1 (va_Nw.use rfl hlink) (fun x hx => hx) d ?_
    rw [← hadk]
    exact k n0 p l e R s m args below meth c β D dA ad0 sa Qf C ad H locs cells slots ls ha hn hR hl hc hs
theorem a_ldc {i : Nat} {z : Nat} {v : Int32} (q : (decide (mi < 152) && decide (decode (mB mi) pc = .ok (.ldc_w i, 3)) && (lks (mD mi)).contains (i, 6, z, 0)) = true) (hv : Int32.ofNat z = v) (k : AW X mi (pc + 3) lv (.int v :: rest) h bc bs Q) : AW X mi pc lv rest h bc bs Q := by
  intro n0 p l e R s m args below meth c β D dA ad0 sa Qf C ad H locs cells slots ls ha hn hR hl hc hs
  simp only [Bool.and_eq_true, decide_eq_true_eq] at q
  obtain ⟨⟨hm, d⟩, hlk⟩ := q
  have hlink : (Cond.constant (dN (mD mi)) i (Int32.ofNat z)).before args s = true := lk_bef hm hlk (Nat.le_of_ble_eq_true rfl) C.2.2.2.2.1
  rw [dN_ok2 mi hm, hv] at hlink
  exact lv_ldcw C.1 C.2.1 C.2.2.2.1 hlink d (k n0 p l e R s m args below meth c β D dA ad0 sa Qf C ad H locs cells slots ls ha hn hR hl hc hs)
theorem a_ldc1 {i : Nat} {z : Nat} {v : Int32} (q : (decide (mi < 152) && decide (decode (mB mi) pc = .ok (.ldc i, 2)) && (lks (mD mi)).contains (i, 6, z, 0)) = true) (hv : Int32.ofNat z = v) (k : AW X mi (pc + 2) lv (.int v :: rest) h bc bs Q) : AW X mi pc lv rest h bc bs Q := by
  intro n0 p l e R s m args below meth c β D dA ad0 sa Qf C ad H locs cells slots ls ha hn hR hl hc hs
  simp only [Bool.and_eq_true, decide_eq_true_eq] at q
  obtain ⟨⟨hm, d⟩, hlk⟩ := q
  have hlink : (Cond.constant (dN (mD mi)) i (Int32.ofNat z)).before args s = true := lk_bef hm hlk (Nat.le_of_ble_eq_true rfl) C.2.2.2.2.1
  rw [dN_ok2 mi hm, hv] at hlink
  exact lv_ldc C.1 C.2.1 C.2.2.2.1 hlink d (k n0 p l e R s m args below meth c β D dA ad0 sa Qf C ad H locs cells slots ls ha hn hR hl hc hs)
theorem a_ldcf {i : Nat} {z : Nat} {v : UInt32} (q : (decide (mi < 152) && decide (decode (mB mi) pc = .ok (.ldc i, 2)) && (lks (mD mi)).contains (i, 6, z, 1)) = true) (hv : UInt32.ofNat z = v) (k : AW X mi (pc + 2) lv (.float v :: rest) h bc bs Q) : AW X mi pc lv rest h bc bs Q := by
  intro n0 p l e R s m args below meth c β D dA ad0 sa Qf C ad H locs cells slots ls ha hn hR hl hc hs
  simp only [Bool.and_eq_true, decide_eq_true_eq] at q
  obtain ⟨⟨hm, d⟩, hlk⟩ := q
  have hlink : (Cond.constantFloat (dN (mD mi)) i (UInt32.ofNat z)).before args s = true := lk_bef hm hlk (Nat.le_of_ble_eq_true rfl) C.2.2.2.2.1
  rw [dN_ok2 mi hm, hv] at hlink
  exact lv_ldcf C.1 C.2.1 C.2.2.2.1 hlink d (k n0 p l e R s m args below meth c β D dA ad0 sa Qf C ad H locs cells slots ls ha hn hR hl hc hs)
theorem a_ldc2 {i : Nat} {z : Nat} {v : Int64} (q : (decide (mi < 152) && decide (decode (mB mi) pc = .ok (.ldc2_w i, 3)) && (lks (mD mi)).contains (i, 7, z, 0)) = true) (hv : Int64.ofNat z = v) (k : AW X mi (pc + 3) lv (.long v :: rest) h bc bs Q) : AW X mi pc lv rest h bc bs Q := by
  intro n0 p l e R s m args below meth c β D dA ad0 sa Qf C ad H locs cells slots ls ha hn hR hl hc hs
  simp only [Bool.and_eq_true, decide_eq_true_eq] at q
  obtain ⟨⟨hm, d⟩, hlk⟩ := q
  have hlink : (Cond.constantLong (dN (mD mi)) i (Int64.ofNat z)).before args s = true := lk_bef hm hlk (Nat.le_of_ble_eq_true rfl) C.2.2.2.2.1
  rw [dN_ok2 mi hm, hv] at hlink
  exact lv_ldc2 C.1 C.2.1 C.2.2.2.1 hlink d (k n0 p l e R s m args below meth c β D dA ad0 sa Qf C ad H locs cells slots ls ha hn hR hl hc hs)
theorem a_ldc2d {i : Nat} {z : Nat} {v : UInt64} (q : (decide (mi < 152) && decide (decode (mB mi) pc = .ok (.ldc2_w i, 3)) && (lks (mD mi)).contains (i, 7, z, 1)) = true) (hv : UInt64.ofNat z = v) (k : AW X mi (pc + 3) lv (.double v :: rest) h bc bs Q) : AW X mi pc lv rest h bc bs Q := by
  intro n0 p l e R s m args below meth c β D dA ad0 sa Qf C ad H locs cells slots ls ha hn hR hl hc hs
  simp only [Bool.and_eq_true, decide_eq_true_eq] at q
  obtain ⟨⟨hm, d⟩, hlk⟩ := q
  have hlink : (Cond.constantDouble (dN (mD mi)) i (UInt64.ofNat z)).before args s = true := lk_bef hm hlk (Nat.le_of_ble_eq_true rfl) C.2.2.2.2.1
  rw [dN_ok2 mi hm, hv] at hlink
  exact lv_ldc2d C.1 C.2.1 C.2.2.2.1 hlink d (k n0 p l e R s m args below meth c β D dA ad0 sa Qf C ad H locs cells slots ls ha hn hR hl hc hs)
theorem a_iald {o n : Nat} {f : Nat → Int32} {i : Int32} (d : decode (mB mi) pc = .ok (.iaload, 1)) (ho : h[o]? = some (.inr (0, n, .inl f))) (hi : vp_in i n) (k : AW X mi (pc + 1) lv (.int (f i.toNatClampNeg) :: rest) h bc bs Q) : AW X mi pc lv (.int i :: .ref o :: rest) h bc bs Q :=
  fun n0 p l e R s m args below meth c β D dA ad0 sa Qf C ad H locs cells slots ls ha hn hR hl hc hs => va_iald C.1 C.2.1 C.2.2.2.2.2.2.1.1 hR.1 o 0 (cW_get ho) rfl hi d (k n0 p l e R s m args below meth c β D dA ad0 sa Qf C ad H locs cells slots ls ha hn hR hl hc hs)
theorem a_iast {o n : Nat} {f : Nat → Int32} {i : Int32} {x : Int32} (d : decode (mB mi) pc = .ok (.iastore, 1)) (ho : h[o]? = some (.inr (0, n, .inl f))) (hi : vp_in i n) (k : AW X mi (pc + 1) lv rest (h.set o (.inr (0, n, .inl (upd f i.toNatClampNeg x)))) bc bs Q) : AW X mi pc lv (.int x :: .int i :: .ref o :: rest) h bc bs Q := by
  intro n0 p l e R s m args below meth c β D dA ad0 sa Qf C ad H locs cells slots ls ha hn hR hl hc hs
  refine va_iast C.1 C.2.1 C.2.2.2.2.2.2.1.1 hR.1 hR.2.1 hR.2.2 o 0 (cW_get ho) rfl hi d (fun H1 locs1 hP1 hD1 hS1 => ?_)
  rw [show (cW dA ad h).set o (ad o, .inl (dA 0, n, .inl (upd f i.toNatClampNeg x))) = cW dA ad (h.set o (.inr (0, n, .inl (upd f i.toNatClampNeg x)))) from cW_set (c := .inr (0, n, .inl (upd f i.toNatClampNeg x)))] at hP1 hD1
  exact k n0 p l e R s m args below meth c β D dA ad0 sa Qf C ad H1 locs1 cells slots ls ha (by rw [List.length_set]; exact hn) ⟨hP1, hD1, hS1⟩ hl hc hs
theorem a_lald {o n : Nat} {f : Nat → Int64} {i : Int32} (d : decode (mB mi) pc = .ok (.laload, 1)) (ho : h[o]? = some (.inr (1, n, .inr (.inl f)))) (hi : vp_in i n) (k : AW X mi (pc + 1) lv (.long (f i.toNatClampNeg) :: rest) h bc bs Q) : AW X mi pc lv (.int i :: .ref o :: rest) h bc bs Q :=
  fun n0 p l e R s m args below meth c β D dA ad0 sa Qf C ad H locs cells slots ls ha hn hR hl hc hs => va_lald C.1 C.2.1 C.2.2.2.2.2.2.1.1 hR.1 o 1 (cW_get ho) rfl hi d (k n0 p l e R s m args below meth c β D dA ad0 sa Qf C ad H locs cells slots ls ha hn hR hl hc hs)
theorem a_last {o n : Nat} {f : Nat → Int64} {i : Int32} {x : Int64} (d : decode (mB mi) pc = .ok (.lastore, 1)) (ho : h[o]? = some (.inr (1, n, .inr (.inl f)))) (hi : vp_in i n) (k : AW X mi (pc + 1) lv rest (h.set o (.inr (1, n, .inr (.inl (vp_updL f i.toNatClampNeg x))))) bc bs Q) : AW X mi pc lv (.long x :: .int i :: .ref o :: rest) h bc bs Q := by
  intro n0 p l e R s m args below meth c β D dA ad0 sa Qf C ad H locs cells slots ls ha hn hR hl hc hs
  refine va_last C.1 C.2.1 C.2.2.2.2.2.2.1.1 hR.1 hR.2.1 hR.2.2 o 1 (cW_get ho) rfl hi d (fun H1 locs1 hP1 hD1 hS1 => ?_)
  rw [show (cW dA ad h).set o (ad o, .inl (dA 1, n, .inr (.inl (vp_updL f i.toNatClampNeg x)))) = cW dA ad (h.set o (.inr (1, n, .inr (.inl (vp_updL f i.toNatClampNeg x))))) from cW_set (c := .inr (1, n, .inr (.inl (vp_updL f i.toNatClampNeg x))))] at hP1 hD1
  exact k n0 p l e R s m args below meth c β D dA ad0 sa Qf C ad H1 locs1 cells slots ls ha (by rw [List.length_set]; exact hn) ⟨hP1, hD1, hS1⟩ hl hc hs
theorem a_alen {o t : Nat} {x : vp_A} {v : Int32} (d : decode (mB mi) pc = .ok (.arraylength, 1)) (ho : h[o]? = some (.inr (t, x))) (ht : t < 3) (hv : Int32.ofNat x.1 = v) (k : AW X mi (pc + 1) lv (.int v :: rest) h bc bs Q) : AW X mi pc lv (.ref o :: rest) h bc bs Q := by
  intro n0 p l e R s m args below meth c β D dA ad0 sa Qf C ad H locs cells slots ls ha hn hR hl hc hs
  refine va_alen C.1 C.2.1 C.2.2.2.2.2.2.1.1 hR.1 o t (cW_get ho) (ty := aty t) (by rcases (show t = 0 ∨ t = 1 ∨ t = 2 by omega) with rfl | rfl | rfl <;> rfl) hv d ?_
  exact k n0 p l e R s m args below meth c β D dA ad0 sa Qf C ad H locs cells slots ls ha hn hR hl hc hs
/-- the static arrays and the script -/
theorem a_iald_ro {o j : Nat} {i : Int32} (d : decode (mB mi) pc = .ok (.iaload, 1)) (ho : o = 1000 + j) (hj : j = 1 ∨ j = 2 ∨ j = 3) (hi : vp_in i (roT X j).2.1) (k : AW X mi (pc + 1) lv (.int ((roT X j).2.2 i.toNatClampNeg) :: rest) h bc bs Q) : AW X mi pc lv (.int i :: .ref o :: rest) h bc bs Q := by
  intro n0 p l e R s m args below meth c β D dA ad0 sa Qf C ad H locs cells slots ls ha hn hR hl hc hs
  subst ho
  have hT := C.2.2.2.2.2.2.1.2.1 j (by omega)
  rw [← ha.2 _ (Or.inr (by omega) : 1000 + j < n0 ∨ 1000 ≤ 1000 + j)] at hT
  have hty : (roT X j).1 = .int := by rcases hj with rfl | rfl | rfl <;> rfl
  rw [hty] at hT
  refine va_ti C.1 C.2.1 hT hR.2.2 hi rfl d ?_
  exact k n0 p l e R s m args below meth c β D dA ad0 sa Qf C ad H locs cells slots ls ha hn hR hl hc hs
theorem a_cald_ro {i : Int32} (d : decode (mB mi) pc = .ok (.caload, 1)) (hi : vp_in i 3) (k : AW X mi (pc + 1) lv (.int (ro_m i.toNatClampNeg) :: rest) h bc bs Q) : AW X mi pc lv (.int i :: .ref 1000 :: rest) h bc bs Q := by
  intro n0 p l e R s m args below meth c β D dA ad0 sa Qf C ad H locs cells slots ls ha hn hR hl hc hs
  have hT := C.2.2.2.2.2.2.1.2.1 0 (by omega)
  rw [← ha.2 _ (Or.inr (by omega) : 1000 + 0 < n0 ∨ 1000 ≤ 1000 + 0)] at hT
  refine va_tc C.1 C.2.1 hT hR.2.2 hi rfl d ?_
  exact k n0 p l e R s m args below meth c β D dA ad0 sa Qf C ad H locs cells slots ls ha hn hR hl hc hs
theorem a_alen_ro {o j : Nat} {v : Int32} (d : decode (mB mi) pc = .ok (.arraylength, 1)) (ho : o = 1000 + j) (hj : j < 4) (hv : Int32.ofNat (roT X j).2.1 = v) (k : AW X mi (pc + 1) lv (.int v :: rest) h bc bs Q) : AW X mi pc lv (.ref o :: rest) h bc bs Q := by
  intro n0 p l e R s m args below meth c β D dA ad0 sa Qf C ad H locs cells slots ls ha hn hR hl hc hs
  subst ho
  have hT := C.2.2.2.2.2.2.1.2.1 j hj
  rw [← ha.2 _ (Or.inr (by omega) : 1000 + j < n0 ∨ 1000 ≤ 1000 + j)] at hT
  refine va_tlen C.1 C.2.1 hT hR.2.2 hv d ?_
  exact k n0 p l e R s m args below meth c β D dA ad0 sa Qf C ad H locs cells slots ls ha hn hR hl hc hs
end HEAP
