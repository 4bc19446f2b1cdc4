/-! making cells; a static row cloned -/
def dfl (a : Nat) : List Value := (List.range (kC a).2.2).map (fun j => defaultValue (kT a j))
theorem tv_dfl (ad : Nat → Nat) (a : Nat) : (dfl a).map (tv ad) = dfl a := by
  unfold dfl
  rw [List.map_map]
  refine List.map_congr_left (fun j _ => ?_)
  show tv ad (defaultValue (kT a j)) = defaultValue (kT a j)
  cases kT a j <;> rfl
theorem dfl_V (a j : Nat) (hj : j < (kC a).2.2) : defaultValue (kT a j) = vp_V (dfl a) j := by
  unfold vp_V dfl
  rw [List.getD_eq_getElem?_getD, List.getElem?_map, List.getElem?_range hj]
  rfl
theorem cW_push {dA : Nat → ClassId} {ad : Nat → Nat} {h : AH} {c : AC} {q : Nat} {e : va_E} (hw : h.all (wfc h.length) = true) (hlt : h.length < 1000) (he : cE dA (fun k => if k = h.length then q else ad k) c = e) : cW dA (fun k => if k = h.length then q else ad k) (h ++ [c]) = cW dA ad h ++ [(q, e)] := by
  have e1 : ∀ k, (k < h.length ∨ 1000 ≤ k) → (fun k => if k = h.length then q else ad k) k = ad k := fun k hk => if_neg (by omega)
  have h1 : cW dA (fun k => if k = h.length then q else ad k) h = cW dA ad h := wfh_cW hw e1
  rw [← h1]
  unfold cW
  rw [List.mapIdx_append]
  congr 1
  simp [he]
section ALLOC
variable {X : XS} {mi pc : Nat} {lv : List (Nat × Value)} {rest : List Value} {h : AH} {bc bs : Nat} {Q : AO → AH → Prop}
def wfa (h : AH) (lv : List (Nat × Value)) (st : List Value) : Bool := h.all (wfc h.length) && lv.all (fun q => wfv h.length q.2) && st.all (wfv h.length)
theorem grow {n0 : Nat} {p : Program} {l : Launch} {e : Env} {R : Room} {s : State} {m : MethodId} {args : Array Value} {below : List Frame} {meth : Method} {c : Code} {β : Nat} {D : va_G} {dA : Nat → ClassId} {ad0 sa : Nat → Nat} {Qf : State → Prop} {c0 : AC} {pc' kn N : Nat} {ad : Nat → Nat} {H1 : Heap} {locs : List Loc} {cells slots : Nat} {ls : Array Slot} {q : Nat} {ent : va_E}
    (C : Cx X mi Q n0 p l e R s m args below meth c β D dA ad0 sa Qf) (hm : mA mi = 1) (hk : h.length = kn) (hlt : kn < 1000) (hwf : wfa h lv rest = true) (hb : 1 ≤ bc ∧ N ≤ bs) (ha : adOk mi n0 ad0 ad) (hn : n0 ≤ h.length) (hl : lv_has ls (mL mi) (tl ad lv)) (hc : cells + bc ≤ R.cells) (hs : slots + bs ≤ R.slots)
    (he : cE dA (fun k => if k = h.length then q else ad k) c0 = ent) (hP : va_P D kcl (cW dA ad h ++ [(q, ent)]) H1) (hD : va_D (fun q : Nat => β ≤ q) (cW dA ad h ++ [(q, ent)])) (hS : va_S (fun q : Nat => β ≤ q) s.heap H1 locs)
    (k : AW X mi pc' lv (.ref kn :: rest) (h ++ [c0]) (bc - 1) (bs - N) Q) : W p l e R s m args below meth c H1 locs (cells + 1) (slots + N) Qf (F0 m pc' ls (.ref q :: rest.map (tv ad))) := by
  subst hk
  simp only [wfa, Bool.and_eq_true] at hwf
  obtain ⟨⟨w1, w2⟩, w3⟩ := hwf
  have e1 : ∀ k, (k < h.length ∨ 1000 ≤ k) → (fun k => if k = h.length then q else ad k) k = ad k := fun k hk => if_neg (by omega)
  rw [← cW_push w1 hlt he] at hP hD
  have kk := k n0 p l e R s m args below meth c β D dA ad0 sa Qf C (fun k => if k = h.length then q else ad k) H1 locs (cells + 1) (slots + N) ls ⟨fun z => (absurd (hm.symm.trans z) (by decide)), fun k hk => (e1 k (hk.imp (fun y => Nat.lt_of_lt_of_le y hn) (fun z => z))).trans (ha.2 k hk)⟩ (by rw [List.length_append]; omega) ⟨hP, hD, hS⟩ (by rw [wfl_tl w2 e1]; exact hl) (by omega) (by omega)
  rw [List.map_cons, wfs_tv w3 e1] at kk
  have e2 : tv (fun k => if k = h.length then q else ad k) (.ref h.length) = .ref q := by simp [tv]
  rw [e2] at kk
  exact kk
def nwB (mi pc i a : Nat) : Bool := decide (mi < 152) && decide (decode (mB mi) pc = .ok (.new i, 3)) && (lks (mD mi)).contains (i, 5, a, 0) && decide (a < 8) && decide (mA mi = 1)
theorem a_new {i a kn : Nat} (q : nwB mi pc i a = true) (hk : h.length = kn) (hlt : Nat.ble (kn + 1) 1000 = true) (hwf : wfa h lv rest = true) (hb : Nat.ble 1 bc = true ∧ Nat.ble (kC a).2.2 bs = true) (k : AW X mi (pc + 3) lv (.ref kn :: rest) (h ++ [.inl (a, dfl a)]) (bc - 1) (bs - (kC a).2.2) Q) : AW X mi pc lv rest h bc bs Q := by
  intro n0 p l e R s m args below meth c β D dA ad0 sa Qf C ad H locs cells slots ls ha hn hR hl hc hs
  simp only [nwB, Bool.and_eq_true, decide_eq_true_eq] at q
  obtain ⟨⟨⟨⟨hm, d⟩, hlk⟩, ha9⟩, hA⟩ := q
  obtain ⟨hk1, hk2, hk3, -, hk5, hk6, -⟩ := kok a ha9
  have hlink := lk_bef hm hlk (Nat.le_of_ble_eq_true rfl) C.2.2.2.2.1
  simp only [lkw] at hlink
  rw [dN_ok2 mi hm, if_pos (by omega)] at hlink
  have b1 := Nat.le_of_ble_eq_true hb.1
  have b2 := Nat.le_of_ble_eq_true hb.2
  refine va_new C.1 C.2.1 C.2.2.2.2.1 hk2 (kT a) hk3 C.2.2.2.1 hlink (C.2.2.2.2.1 _ hk5) (C.2.2.2.2.1 _ hk6) C.2.2.2.2.2.2.1.1 hR.1 hR.2.1 hR.2.2 (fun q h1 => Nat.le_trans C.2.2.2.2.2.2.2.1 h1) hk1 (fs := dfl a) (fun j hj => dfl_V a j hj) (by omega) (by omega) d (fun q H1 hP1 hD1 hS1 => ?_)
  exact grow C hA hk (Nat.le_of_ble_eq_true hlt) hwf ⟨b1, b2⟩ ha hn hl hc hs (by simp only [cE]; rw [tv_dfl]) hP1 hD1 hS1 k
def zc (a : Nat) : (Nat → Int32) ⊕ (Nat → Int64) ⊕ (Nat → UInt32) ⊕ (Nat → UInt64) ⊕ (Nat → Option Nat) := match a with
  | 1 => .inr (.inl (fun _ => 0))
  | _ => .inl (fun _ => 0)
def naB (mi pc a : Nat) : Bool := decide (mi < 152) && decide (decode (mB mi) pc = .ok (.newarray (aTy a), 2)) && decide (a < 3) && decide (mA mi = 1)
theorem ac_ok (a : Nat) (h : a < 3) : Cond.arrayClass (aty a) ∈ XU := by
  match a, h with
  | 0, _ => exact xu_t (by decide +kernel) rfl
  | 1, _ => exact xu_t (by decide +kernel) rfl
  | 2, _ => exact xu_t (by decide +kernel) rfl
  | a + 3, h => exact absurd h (by omega)
theorem aTy_ok (a : Nat) : newarray.typeOf (aTy a) = aty a := by
  unfold aTy aty
  split <;> rfl
theorem zc_ok (a N : Nat) (h : a < 3) (cA : ClassId) : vp_cell cA (N, zc a) = arrV cA N (fun _ => defaultValue (aty a)) := by
  match a, h with
  | 0, _ => rfl
  | 1, _ => rfl
  | 2, _ => rfl
  | a + 3, h => exact absurd h (by omega)
theorem tyl_at (dA : Nat → ClassId) (a : Nat) (h : a < 3) : (tyl dA)[a]? = some (dA a, aty a) := by
  match a, h with
  | 0, _ => rfl
  | 1, _ => rfl
  | 2, _ => rfl
  | a + 3, h => exact absurd h (by omega)
theorem ra_one {U : State} {c1 c2 : ClassId} {a : Nat} (h : a < 3) (h1 : va_RA U c1 (aty a)) (h2 : va_RA U c2 (aty a)) : c1 = c2 := by
  match a, h with
  | 0, _ => exact Option.some.inj (h1.symm.trans h2)
  | 1, _ => exact Option.some.inj (h1.symm.trans h2)
  | 2, _ => exact Option.some.inj (h1.symm.trans h2)
  | a + 3, h => exact absurd h (by omega)
theorem a_newarray {a kn N : Nat} {n : Int32} (q : naB mi pc a = true) (hnn : ¬ n < 0) (hN : n.toNatClampNeg = N) (hN2 : Nat.ble N 100000 = true) (hk : h.length = kn) (hlt : Nat.ble (kn + 1) 1000 = true) (hwf : wfa h lv rest = true) (hb : Nat.ble 1 bc = true ∧ Nat.ble N bs = true) (k : AW X mi (pc + 2) lv (.ref kn :: rest) (h ++ [.inr (a, N, zc a)]) (bc - 1) (bs - N) Q) : AW X mi pc lv (.int n :: rest) h bc bs Q := by
  intro n0 p l e R s m args below meth c β D dA ad0 sa Qf C ad H locs cells slots ls ha hn hR hl hc hs
  simp only [naB, Bool.and_eq_true, decide_eq_true_eq] at q
  obtain ⟨⟨⟨hm, d⟩, ha5⟩, hA⟩ := q
  have b1 := Nat.le_of_ble_eq_true hb.1
  have b2 := Nat.le_of_ble_eq_true hb.2
  have b3 := Nat.le_of_ble_eq_true hN2
  refine va_newa (ty := aty a) (a0 := (N, zc a)) C.1 C.2.1 (by rw [aTy_ok]; exact C.2.2.2.2.1 _ (ac_ok a ha5)) (aTy_ok a) C.2.2.2.2.2.2.1.1 hR.1 hR.2.1 hR.2.2 (fun q h1 => Nat.le_trans C.2.2.2.2.2.2.2.1 h1) (fun cA => zc_ok a N ha5 cA) hnn hN (by
    have : componentBytes (aty a) ≤ 8 := by
      match a, ha5 with
      | 0, _ => decide
      | 1, _ => decide
      | 2, _ => decide
      | a + 3, h => exact absurd h (by omega)
    calc N * componentBytes (aty a) ≤ 100000 * 8 := Nat.mul_le_mul b3 this
      _ ≤ 536870912 := by decide) (by omega) (by omega) d (fun q cA H1 hK1 hP1 hD1 hS1 => ?_)
  have hcA : cA = dA a := by
    have h1 := (hK1.2 (tyl dA).length (cA, aty a) (by rw [List.getElem?_append_right (Nat.le_refl _), Nat.sub_self]; rfl)).2
    have h2 := (C.2.2.2.2.2.2.1.1.2 a _ (tyl_at dA a ha5)).2
    exact ra_one ha5 h1 h2
  subst hcA
  exact grow (c0 := .inr (a, N, zc a)) C hA hk (Nat.le_of_ble_eq_true hlt) hwf ⟨b1, b2⟩ ha hn hl hc hs rfl hP1 hD1 hS1 k
theorem a_objInit {i o : Nat} (q : (decide (mi < 152) && decide (decode (mB mi) pc = .ok (.invokespecial i, 3)) && (lks (mD mi)).contains (i, 2, 0, 0) && decide (1 ≤ mV mi)) = true) (hw : Nat.ble (rest.map fun v => v.category).sum 8 = true) (k : AW X mi (pc + 3) lv rest h bc bs Q) : AW X mi pc lv (.ref o :: rest) h bc bs Q := by
  intro n0 p l e R s m args below meth c β D dA ad0 sa Qf C ad H locs cells slots ls ha hn hR hl hc hs
  simp only [Bool.and_eq_true, decide_eq_true_eq] at q
  obtain ⟨⟨⟨hm, d⟩, hlk⟩, hv⟩ := q
  have hlink := lk_bef hm hlk (Nat.le_of_ble_eq_true rfl) C.2.2.2.2.1
  simp only [lkw] at hlink
  rw [dN_ok2 mi hm] at hlink
  have hrest : ((rest.map (tv ad)).map fun v => v.category).sum ≤ 8 := by
    rw [List.map_map]
    have := Nat.le_of_ble_eq_true hw
    simpa [Function.comp_def, tv_cat] using this
  have hfr := C.2.2.2.2.2.2.2.2.2.1
  refine W.objInit C.1 C.2.1 C.2.2.2.1 hlink (C.2.2.2.2.1 _ (xu_t (by decide +kernel) (by decide +kernel))) (C.2.2.2.2.1 _ (xu_t (by decide +kernel) (by decide +kernel))) rfl (by rw [C.2.2.1]; exact hl.1) rfl d (by omega) (by show 2 * 0 + ((rest.map (tv ad)).map fun v => v.category).sum + 12 ≤ R.locals; omega) ?_
  exact k n0 p l e R s m args below meth c β D dA ad0 sa Qf C ad H locs cells slots ls ha hn hR hl hc hs
theorem a_mmax {i : Nat} {x y : Int32} (q : (decide (mi < 152) && decide (decode (mB mi) pc = .ok (.invokestatic i, 3)) && (lks (mD mi)).contains (i, 3, 1, 0) && decide (1 ≤ mV mi)) = true) (hw : Nat.ble (rest.map fun v => v.category).sum 8 = true) (k : AW X mi (pc + 3) lv (.int (if x < y then y else x) :: rest) h bc bs Q) : AW X mi pc lv (.int y :: .int x :: rest) h bc bs Q := by
  intro n0 p l e R s m args below meth c β D dA ad0 sa Qf C ad H locs cells slots ls ha hn hR hl hc hs
  simp only [Bool.and_eq_true, decide_eq_true_eq] at q
  obtain ⟨⟨⟨hm, d⟩, hlk⟩, hv⟩ := q
  have hlink := lk_bef hm hlk (Nat.le_of_ble_eq_true rfl) C.2.2.2.2.1
  simp only [lkw] at hlink
  rw [dN_ok2 mi hm] at hlink
  have hrest : ((rest.map (tv ad)).map fun v => v.category).sum ≤ 8 := by
    rw [List.map_map]
    have := Nat.le_of_ble_eq_true hw
    simpa [Function.comp_def, tv_cat] using this
  have hfr := C.2.2.2.2.2.2.2.2.2.1
  refine va_mmax C.1 C.2.1 (by rw [C.2.2.1]; exact hl.1.symm) C.2.2.2.1 hlink (C.2.2.2.2.1 _ (xu_t (by decide +kernel) (by decide +kernel))) (C.2.2.2.2.1 _ (xu_t (by decide +kernel) (by decide +kernel))) (C.2.2.2.2.1 _ (xu_t (by decide +kernel) (by decide +kernel))) (by omega) (by omega) (by omega) (by omega) d ?_
  exact k n0 p l e R s m args below meth c β D dA ad0 sa Qf C ad H locs cells slots ls ha hn hR hl hc hs
theorem a_lmax {i : Nat} {x y : Int64} (q : (decide (mi < 152) && decide (decode (mB mi) pc = .ok (.invokestatic i, 3)) && (lks (mD mi)).contains (i, 3, 2, 0) && decide (1 ≤ mV mi)) = true) (hw : Nat.ble (rest.map fun v => v.category).sum 8 = true) (k : AW X mi (pc + 3) lv (.long (if y < x then x else y) :: rest) h bc bs Q) : AW X mi pc lv (.long y :: .long x :: rest) h bc bs Q := by
  intro n0 p l e R s m args below meth c β D dA ad0 sa Qf C ad H locs cells slots ls ha hn hR hl hc hs
  simp only [Bool.and_eq_true, decide_eq_true_eq] at q
  obtain ⟨⟨⟨hm, d⟩, hlk⟩, hv⟩ := q
  have hlink := lk_bef hm hlk (Nat.le_of_ble_eq_true rfl) C.2.2.2.2.1
  simp only [lkw] at hlink
  rw [dN_ok2 mi hm] at hlink
  have hrest : ((rest.map (tv ad)).map fun v => v.category).sum ≤ 8 := by
    rw [List.map_map]
    have := Nat.le_of_ble_eq_true hw
    simpa [Function.comp_def, tv_cat] using this
  have hfr := C.2.2.2.2.2.2.2.2.2.1
  refine va_mmax_long C.1 C.2.1 (by rw [C.2.2.1]; exact hl.1.symm) C.2.2.2.1 hlink (C.2.2.2.2.1 _ (xu_t (by decide +kernel) (by decide +kernel))) (C.2.2.2.2.1 _ (xu_t (by decide +kernel) (by decide +kernel))) (C.2.2.2.2.1 _ (xu_t (by decide +kernel) (by decide +kernel))) (by omega) (by omega) (by omega) (by omega) d ?_
  exact k n0 p l e R s m args below meth c β D dA ad0 sa Qf C ad H locs cells slots ls ha hn hR hl hc hs
theorem a_mmin {i : Nat} {x y : Int32} (q : (decide (mi < 152) && decide (decode (mB mi) pc = .ok (.invokestatic i, 3)) && (lks (mD mi)).contains (i, 3, 3, 0) && decide (1 ≤ mV mi)) = true) (hw : Nat.ble (rest.map fun v => v.category).sum 8 = true) (k : AW X mi (pc + 3) lv (.int (if y < x then y else x) :: rest) h bc bs Q) : AW X mi pc lv (.int y :: .int x :: rest) h bc bs Q := by
  intro n0 p l e R s m args below meth c β D dA ad0 sa Qf C ad H locs cells slots ls ha hn hR hl hc hs
  simp only [Bool.and_eq_true, decide_eq_true_eq] at q
  obtain ⟨⟨⟨hm, d⟩, hlk⟩, hv⟩ := q
  have hlink := lk_bef hm hlk (Nat.le_of_ble_eq_true rfl) C.2.2.2.2.1
  simp only [lkw] at hlink
  rw [dN_ok2 mi hm] at hlink
  have hrest : ((rest.map (tv ad)).map fun v => v.category).sum ≤ 8 := by
    rw [List.map_map]
    have := Nat.le_of_ble_eq_true hw
    simpa [Function.comp_def, tv_cat] using this
  have hfr := C.2.2.2.2.2.2.2.2.2.1
  refine va_mmin C.1 C.2.1 (by rw [C.2.2.1]; exact hl.1.symm) C.2.2.2.1 hlink (C.2.2.2.2.1 _ (xu_t (by decide +kernel) (by decide +kernel))) (C.2.2.2.2.1 _ (xu_t (by decide +kernel) (by decide +kernel))) (C.2.2.2.2.1 _ (xu_t (by decide +kernel) (by decide +kernel))) (by omega) (by omega) (by omega) (by omega) d ?_
  exact k n0 p l e R s m args below meth c β D dA ad0 sa Qf C ad H locs cells slots ls ha hn hR hl hc hs
theorem a_lmin {i : Nat} {x y : Int64} (q : (decide (mi < 152) && decide (decode (mB mi) pc = .ok (.invokestatic i, 3)) && (lks (mD mi)).contains (i, 3, 4, 0) && decide (1 ≤ mV mi)) = true) (hw : Nat.ble (rest.map fun v => v.category).sum 8 = true) (k : AW X mi (pc + 3) lv (.long (if y < x then y else x) :: rest) h bc bs Q) : AW X mi pc lv (.long y :: .long x :: rest) h bc bs Q := by
  intro n0 p l e R s m args below meth c β D dA ad0 sa Qf C ad H locs cells slots ls ha hn hR hl hc hs
  simp only [Bool.and_eq_true, decide_eq_true_eq] at q
  obtain ⟨⟨⟨hm, d⟩, hlk⟩, hv⟩ := q
  have hlink := lk_bef hm hlk (Nat.le_of_ble_eq_true rfl) C.2.2.2.2.1
  simp only [lkw] at hlink
  rw [dN_ok2 mi hm] at hlink
  have hrest : ((rest.map (tv ad)).map fun v => v.category).sum ≤ 8 := by
    rw [List.map_map]
    have := Nat.le_of_ble_eq_true hw
    simpa [Function.comp_def, tv_cat] using this
  have hfr := C.2.2.2.2.2.2.2.2.2.1
  refine va_mmin_long C.1 C.2.1 (by rw [C.2.2.1]; exact hl.1.symm) C.2.2.2.1 hlink (C.2.2.2.2.1 _ (xu_t (by decide +kernel) (by decide +kernel))) (C.2.2.2.2.1 _ (xu_t (by decide +kernel) (by decide +kernel))) (C.2.2.2.2.1 _ (xu_t (by decide +kernel) (by decide +kernel))) (by omega) (by omega) (by omega) (by omega) d ?_
  exact k n0 p l e R s m args below meth c β D dA ad0 sa Qf C ad H locs cells slots ls ha hn hR hl hc hs
theorem a_clone {i kn : Nat} (q : (decide (mi < 152) && decide (decode (mB mi) pc = .ok (.invokevirtual i, 3)) && (lks (mD mi)).contains (i, 3, 0, 0) && decide (1 ≤ mV mi) && decide (mA mi = 1)) = true) (hw : Nat.ble (rest.map fun v => v.category).sum 8 = true) (hk : h.length = kn) (hlt : Nat.ble (kn + 1) 1000 = true) (hwf : wfa h lv rest = true) (hb : Nat.ble 1 bc = true ∧ Nat.ble 8 bs = true) (k : AW X mi (pc + 3) lv (.ref kn :: rest) (h ++ [.inr (0, 8, .inl ro_w)]) (bc - 1) (bs - 8) Q) : AW X mi pc lv (.ref 1001 :: rest) h bc bs Q := by
  intro n0 p l e R s m args below meth c β D dA ad0 sa Qf C ad H locs cells slots ls ha hn hR hl hc hs
  simp only [Bool.and_eq_true, decide_eq_true_eq] at q
  obtain ⟨⟨⟨⟨hm, d⟩, hlk⟩, hv⟩, hA⟩ := q
  have hlink := lk_bef hm hlk (Nat.le_of_ble_eq_true rfl) C.2.2.2.2.1
  simp only [lkw] at hlink
  rw [dN_ok2 mi hm] at hlink
  have b1 := Nat.le_of_ble_eq_true hb.1
  have b2 := Nat.le_of_ble_eq_true hb.2
  have hrest : ((rest.map (tv ad)).map fun v => v.category).sum ≤ 8 := by
    rw [List.map_map]
    have := Nat.le_of_ble_eq_true hw
    simpa [Function.comp_def, tv_cat] using this
  have hfr := C.2.2.2.2.2.2.2.2.2.1
  have hsw := C.2.2.2.2.2.2.1
  have had : ad 1001 = ad0 1001 := ha.2 _ (Or.inr (by omega))
  obtain ⟨cell, w1, w2, w3, w4⟩ := hsw.2.2.2.2.2.2.2.2
  obtain ⟨cell', t1, t2, t3, -, -, t6, -⟩ := hsw.2.1 1 (by omega)
  cases Option.some.inj (w1.symm.trans t1)
  have w1H : H[ad 1001]? = some cell := by rw [had, hR.2.2.2.1 _ (Array.getElem?_eq_some_iff.mp w1).1 w4]; exact w1
  have hci := hsw.2.2.2.2.2.2.1 (Cond.castable "[I" "java/lang/Cloneable") (List.mem_filter.mpr ⟨by decide +kernel, rfl⟩)
  obtain ⟨c0, t0', f1, f2, f3⟩ := Cond.castable_spec (va_Nw.use (A := args) rfl hci)
  cases Option.some.inj (w3.symm.trans f1)
  have hdA : dA 0 = cell.cls := Option.some.inj ((va_nm_int ((hsw.1.2 0 _ (tyl_at dA 0 (by omega))).2)).symm.trans w3)
  have hsl : ({ cls := cell.cls, slots := cell.slots } : Cell) = vp_cell (dA 0) (8, .inl ro_w) := by
    have hs8 : cell.slots = (vp_cell (dA 0) (8, .inl ro_w)).slots := by
      apply Array.ext_getElem?
      intro j
      by_cases hj : j < 8
      · rw [t6 j hj, vp_cell_i, arrV_read _ _ hj]
        rfl
      · rw [Array.getElem?_eq_none (by omega), Array.getElem?_eq_none (by rw [vp_cell_i, arrV_size]; omega)]
    rw [hs8, ← hdA]
    rfl
  intro T hT Y
  obtain ⟨hst0, kA, hkA, comp, hkind⟩ := State.isArrayOf_alike Y.warmed.alike t2
  obtain ⟨vm', Y', st⟩ := Y.cloneArray C.1 C.2.2.2.1 hlink (C.2.2.2.2.1 _ (xu_t (by decide +kernel) (by decide +kernel))) (C.2.2.2.2.1 _ (xu_t (by decide +kernel) (by decide +kernel))) (C.2.2.2.2.1 _ (xu_t (by decide +kernel) (by decide +kernel))) (C.2.2.2.2.1 _ (xu_t (by decide +kernel) (by decide +kernel))) (a := ad 1001) (cell := cell) (by rw [hT]; exact w1H) t2.1 t3 w3 f2 f3
    (fun i v hv => by
      have hk' : T.vm.classes[cell.cls]? = some kA := hkA
      have hv2 : fits .int v = true := by
        by_cases hi : i < 8
        · rw [t6 i hi] at hv; cases hv; rfl
        · rw [Array.getElem?_eq_none (by omega)] at hv; cases hv
      simpa [State.fitsSlot, State.slotType?, hk', hkind, roT] using hv2)
    (g := F0 m pc ls (.ref (ad 1001) :: rest.map (tv ad))) rfl (by rw [C.2.2.1]; exact hl.1) rfl (by rw [C.2.1]; exact d) (by omega) (by show 2 * 0 + _ + 14 ≤ _; omega) (by omega) (by rw [w2]; omega) (hloader := by
      obtain ⟨-, kS, hkS, compS, hkindS⟩ := t2
      exact Vm.clonesLoader_of_array hkS hkindS)
  rw [w2, hsl] at Y'
  generalize hH1 : H.push (vp_cell (dA 0) (8, .inl ro_w)) = H1
  have z1 : H1.size = H.size + 1 := by rw [← hH1, Array.size_push]
  have e1 : H1[H.size]? = some (vp_cell (dA 0) (8, .inl ro_w)) := by rw [← hH1, Array.getElem?_push_size]
  have o1 : ∀ q : Nat, q < H.size → H1[q]? = H[q]? := fun q hq => by rw [← hH1, Array.getElem?_push, if_neg (Nat.ne_of_lt hq)]
  have hP1 : va_P D kcl (cW dA ad h ++ [(H.size, .inl (dA 0, (8, .inl ro_w)))]) H1 := (hR.1.kept (fun k y hy => o1 y.1 ((hR.1 k y hy).lt))).app (fun k y hy => by
    have hz : k < 1 := (List.getElem?_eq_some_iff.mp hy).1
    rw [show k = 0 by omega] at hy
    cases hy
    exact e1)
  have hD1 : va_D (fun q : Nat => β ≤ q) (cW dA ad h ++ [(H.size, .inl (dA 0, (8, .inl ro_w)))]) := hR.2.1.push hR.1 rfl (Nat.le_trans C.2.2.2.2.2.2.2.1 hR.2.2.1)
  have hS1 : va_S (fun q : Nat => β ≤ q) s.heap H1 locs := ⟨Nat.le_trans hR.2.2.1 (by omega), fun y h1 h2 => (o1 y (Nat.lt_of_lt_of_le h1 hR.2.2.1)).trans (hR.2.2.2.1 y h1 h2), hR.2.2.2.2⟩
  have K := grow (N := 8) C hA hk (Nat.le_of_ble_eq_true hlt) hwf ⟨b1, b2⟩ ha hn hl hc hs (c0 := .inr (0, 8, .inl ro_w)) rfl hP1 hD1 hS1 k
  obtain ⟨t, b1, b2⟩ := K ((T.setVm vm').pushCell (vp_cell (dA 0) (8, .inl ro_w))) (by rw [← hH1, ← hT]; rfl) Y'
  refine ⟨t, st t ?_, b2⟩
  rw [hsl, hT]
  exact b1
theorem a_castI {i o : Nat} {x : vp_A} (q : (decide (mi < 152) && decide (decode (mB mi) pc = .ok (.checkcast i, 3)) && decide (Cond.classLink (mY mi).cls i "[I" ∈ tables_1)) = true) (ho : h[o]? = some (.inr (0, x))) (k : AW X mi (pc + 3) lv (.ref o :: rest) h bc bs Q) : AW X mi pc lv (.ref o :: rest) h bc bs Q := by
  intro n0 p l e R s m args below meth c β D dA ad0 sa Qf C ad H locs cells slots ls ha hn hR hl hc hs
  simp only [Bool.and_eq_true, decide_eq_true_eq] at q
  obtain ⟨⟨hm, d⟩, hlk⟩ := q
  refine va_castA C.1 C.2.1 C.2.2.2.1 (C.2.2.2.2.1 _ (xu_t hlk rfl)) hR.1 o (cW_get ho) (va_nm_int ((C.2.2.2.2.2.2.1.1.2 0 _ (tyl_at dA 0 (by omega))).2)) d ?_
  exact k n0 p l e R s m args below meth c β D dA ad0 sa Qf C ad H locs cells slots ls ha hn hR hl hc hs
end ALLOC
