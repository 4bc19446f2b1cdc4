/-! the rules of AW: one an instruction -/
/-- a local's value -/
def lkp (i : Nat) : List (Nat × Value) → Option Value
  | [] => none
  | q :: r => bif Nat.beq q.1 i then some q.2 else lkp i r
/-- does a store of width w at i take this entry away -/
def klp (w i : Nat) (q : Nat × Value) : Bool := (Nat.beq q.1 i) || (Nat.beq (q.1 + 1) i && Nat.beq q.2.category 2) || (Nat.beq w 2 && Nat.beq q.1 (i + 1))
def stf (w i : Nat) : List (Nat × Value) → List (Nat × Value)
  | [] => []
  | q :: r => bif klp w i q then stf w i r else q :: stf w i r
def sto (w i : Nat) (v : Value) : List (Nat × Value) → List (Nat × Value)
  | [] => [(i, v)]
  | q :: r => bif Nat.beq q.1 i then (i, v) :: stf w i r else bif klp w i q then sto w i v r else q :: sto w i v r
theorem lkp_in {i : Nat} {v : Value} : ∀ {lv : List (Nat × Value)}, lkp i lv = some v → (i, v) ∈ lv
  | [], h => by cases h
  | q :: r, h => by
    unfold lkp at h
    cases hq : Nat.beq q.1 i with
    | true =>
      rw [hq] at h
      have e1 : q.1 = i := Nat.eq_of_beq_eq_true hq
      have e2 : q.2 = v := Option.some.inj h
      rw [← e1, ← e2]
      exact List.mem_cons_self
    | false =>
      rw [hq] at h
      exact List.mem_cons_of_mem _ (lkp_in h)
theorem stf_in {w i : Nat} {q : Nat × Value} : ∀ {lv : List (Nat × Value)}, q ∈ stf w i lv → q ∈ lv ∧ klp w i q = false
  | [], h => by cases h
  | z :: r, h => by
    unfold stf at h
    cases hz : klp w i z with
    | true => rw [hz] at h; exact ⟨List.mem_cons_of_mem _ (stf_in h).1, (stf_in h).2⟩
    | false =>
      rw [hz] at h
      rcases List.mem_cons.mp h with rfl | h
      · exact ⟨List.mem_cons_self, hz⟩
      · exact ⟨List.mem_cons_of_mem _ (stf_in h).1, (stf_in h).2⟩
theorem sto_in {w i : Nat} {v : Value} {q : Nat × Value} : ∀ {lv : List (Nat × Value)}, q ∈ sto w i v lv → q = (i, v) ∨ (q ∈ lv ∧ klp w i q = false)
  | [], h => Or.inl (List.mem_singleton.mp h)
  | z :: r, h => by
    unfold sto at h
    cases hb : Nat.beq z.1 i with
    | true =>
      rw [hb] at h
      rcases List.mem_cons.mp h with rfl | h
      · exact Or.inl rfl
      · exact Or.inr ⟨List.mem_cons_of_mem _ (stf_in h).1, (stf_in h).2⟩
    | false =>
      rw [hb] at h
      cases hz : klp w i z with
      | true =>
        rw [hz] at h
        rcases sto_in (lv := r) h with h | h
        · exact Or.inl h
        · exact Or.inr ⟨List.mem_cons_of_mem _ h.1, h.2⟩
      | false =>
        rw [hz] at h
        rcases List.mem_cons.mp h with rfl | h
        · exact Or.inr ⟨List.mem_cons_self, hz⟩
        · rcases sto_in (lv := r) h with h | h
          · exact Or.inl h
          · exact Or.inr ⟨List.mem_cons_of_mem _ h.1, h.2⟩
theorem tl_at {ad : Nat → Nat} {ls : Array Slot} {n i : Nat} {lv : List (Nat × Value)} {v : Value} (h : lv_has ls n (tl ad lv)) (hk : lkp i lv = some v) : ls[i]? = some (.val (tv ad v)) :=
  h.2.2 (i, tv ad v) (List.mem_map.mpr ⟨(i, v), lkp_in hk, rfl⟩)
theorem tl_sto1 {ad : Nat → Nat} {ls : Array Slot} {n i : Nat} {lv : List (Nat × Value)} {v : Value} (h : lv_has ls n ((i, tv ad v) :: (tl ad lv).filter (fun q => !(q.1 == i) && !(q.1 + 1 == i && q.2.category == 2)))) : lv_has ls n (tl ad (sto 1 i v lv)) := by
  refine ⟨h.1, h.2.1, fun q hq => ?_⟩
  obtain ⟨z, hz, rfl⟩ := List.mem_map.mp hq
  rcases sto_in hz with rfl | ⟨hz, hk⟩
  · exact h.2.2 _ List.mem_cons_self
  · refine h.2.2 _ (List.mem_cons_of_mem _ (List.mem_filter.mpr ⟨List.mem_map.mpr ⟨z, hz, rfl⟩, ?_⟩))
    simp only [klp, Bool.or_eq_false_iff, Bool.and_eq_false_iff] at hk
    obtain ⟨⟨h1, h2⟩, -⟩ := hk
    have e1 : ¬ z.1 = i := Nat.ne_of_beq_eq_false h1
    have e2 : ¬ (z.1 + 1 = i ∧ z.2.category = 2) := fun ⟨a, b⟩ => by
      rcases h2 with h2 | h2
      · exact Nat.ne_of_beq_eq_false h2 a
      · exact Nat.ne_of_beq_eq_false h2 b
    have e3 : ¬ (z.1 + 1 = i ∧ (tv ad z.2).category = 2) := by rw [tv_cat]; exact e2
    simp only [Bool.and_eq_true, Bool.not_eq_true', beq_eq_false_iff_ne, ne_eq, Bool.and_eq_false_iff]
    refine ⟨e1, ?_⟩
    by_cases a : z.1 + 1 = i
    · exact Or.inr (fun b => e3 ⟨a, b⟩)
    · exact Or.inl a
theorem tl_sto2 {ad : Nat → Nat} {ls : Array Slot} {n i : Nat} {lv : List (Nat × Value)} {v : Value} (h : lv_has ls n ((i, tv ad v) :: (tl ad lv).filter (fun q => !(q.1 == i) && (!(q.1 == i + 1) && !(q.1 + 1 == i && q.2.category == 2))))) : lv_has ls n (tl ad (sto 2 i v lv)) := by
  refine ⟨h.1, h.2.1, fun q hq => ?_⟩
  obtain ⟨z, hz, rfl⟩ := List.mem_map.mp hq
  rcases sto_in hz with rfl | ⟨hz, hk⟩
  · exact h.2.2 _ List.mem_cons_self
  · refine h.2.2 _ (List.mem_cons_of_mem _ (List.mem_filter.mpr ⟨List.mem_map.mpr ⟨z, hz, rfl⟩, ?_⟩))
    simp only [klp, Bool.or_eq_false_iff, Bool.and_eq_false_iff] at hk
    obtain ⟨⟨h1, h2⟩, h3⟩ := hk
    have e1 : ¬ z.1 = i := Nat.ne_of_beq_eq_false h1
    have e4 : ¬ z.1 = i + 1 := by
      rcases h3 with h3 | h3
      · exact absurd h3 (by decide)
      · exact Nat.ne_of_beq_eq_false h3
    have e2 : ¬ (z.1 + 1 = i ∧ z.2.category = 2) := fun ⟨a, b⟩ => by
      rcases h2 with h2 | h2
      · exact Nat.ne_of_beq_eq_false h2 a
      · exact Nat.ne_of_beq_eq_false h2 b
    have e3 : ¬ (z.1 + 1 = i ∧ (tv ad z.2).category = 2) := by rw [tv_cat]; exact e2
    simp only [Bool.and_eq_true, Bool.not_eq_true', beq_eq_false_iff_ne, ne_eq, Bool.and_eq_false_iff]
    refine ⟨e1, e4, ?_⟩
    by_cases a : z.1 + 1 = i
    · exact Or.inr (fun b => e3 ⟨a, b⟩)
    · exact Or.inl a
section RULES
variable {X : XS} {mi pc : Nat} {lv : List (Nat × Value)} {rest : List Value} {h : AH} {bc bs : Nat} {Q : AO → AH → Prop}
theorem a_iconst {n : Int} {v : Int32} (d : decode (mB mi) pc = .ok (.iconst n, 1)) (hv : Int32.ofInt n = v) (k : AW X mi (pc + 1) lv (.int v :: rest) h bc bs Q) : AW X mi pc lv (rest) h bc bs Q :=
  fun n0 p l e R s m args below meth c β D dA ad0 sa Qf C ad H locs cells slots ls ha hn hR hl hc hs => lv_iconst C.1 C.2.1 d hv (k n0 p l e R s m args below meth c β D dA ad0 sa Qf C ad H locs cells slots ls ha hn hR hl hc hs)
theorem a_bipush {n : Int} {v : Int32} (d : decode (mB mi) pc = .ok (.bipush n, 2)) (hv : (Int8.ofInt n).toInt32 = v) (k : AW X mi (pc + 2) lv (.int v :: rest) h bc bs Q) : AW X mi pc lv (rest) h bc bs Q :=
  fun n0 p l e R s m args below meth c β D dA ad0 sa Qf C ad H locs cells slots ls ha hn hR hl hc hs => lv_bipush C.1 C.2.1 d hv (k n0 p l e R s m args below meth c β D dA ad0 sa Qf C ad H locs cells slots ls ha hn hR hl hc hs)
theorem a_sipush {n : Int} {v : Int32} (d : decode (mB mi) pc = .ok (.sipush n, 3)) (hv : (Int16.ofInt n).toInt32 = v) (k : AW X mi (pc + 3) lv (.int v :: rest) h bc bs Q) : AW X mi pc lv (rest) h bc bs Q :=
  fun n0 p l e R s m args below meth c β D dA ad0 sa Qf C ad H locs cells slots ls ha hn hR hl hc hs => lv_sipush C.1 C.2.1 d hv (k n0 p l e R s m args below meth c β D dA ad0 sa Qf C ad H locs cells slots ls ha hn hR hl hc hs)
theorem a_lconst {n : Fin 2} {v : Int64} (d : decode (mB mi) pc = .ok (.lconst n, 1)) (hv : Int64.ofNat (n : Nat) = v) (k : AW X mi (pc + 1) lv (.long v :: rest) h bc bs Q) : AW X mi pc lv (rest) h bc bs Q :=
  fun n0 p l e R s m args below meth c β D dA ad0 sa Qf C ad H locs cells slots ls ha hn hR hl hc hs => lv_lconst C.1 C.2.1 d hv (k n0 p l e R s m args below meth c β D dA ad0 sa Qf C ad H locs cells slots ls ha hn hR hl hc hs)
theorem a_fconst0  (d : decode (mB mi) pc = .ok (.fconst 0, 1))  (k : AW X mi (pc + 1) lv (.float FP.fconst0 :: rest) h bc bs Q) : AW X mi pc lv (rest) h bc bs Q :=
  fun n0 p l e R s m args below meth c β D dA ad0 sa Qf C ad H locs cells slots ls ha hn hR hl hc hs => lv_fconst0 C.1 C.2.1 d  (k n0 p l e R s m args below meth c β D dA ad0 sa Qf C ad H locs cells slots ls ha hn hR hl hc hs)
theorem a_dconst0  (d : decode (mB mi) pc = .ok (.dconst 0, 1))  (k : AW X mi (pc + 1) lv (.double FP.dconst0 :: rest) h bc bs Q) : AW X mi pc lv (rest) h bc bs Q :=
  fun n0 p l e R s m args below meth c β D dA ad0 sa Qf C ad H locs cells slots ls ha hn hR hl hc hs => lv_dconst0 C.1 C.2.1 d  (k n0 p l e R s m args below meth c β D dA ad0 sa Qf C ad H locs cells slots ls ha hn hR hl hc hs)
theorem a_iload_n {j : Fin 4} {i : Nat} {x : Int32} (d : decode (mB mi) pc = .ok (.iload_n j, 1)) (hi : (j : Nat) = i) (hx : lkp i lv = some (.int x)) (k : AW X mi (pc + 1) lv (.int x :: rest) h bc bs Q) : AW X mi pc lv (rest) h bc bs Q :=
  fun n0 p l e R s m args below meth c β D dA ad0 sa Qf C ad H locs cells slots ls ha hn hR hl hc hs => lv_iload_n C.1 C.2.1 d hi (tl_at hl hx) (k n0 p l e R s m args below meth c β D dA ad0 sa Qf C ad H locs cells slots ls ha hn hR hl hc hs)
theorem a_iload {i : Nat} {x : Int32} (d : decode (mB mi) pc = .ok (.iload i, 2)) (hx : lkp i lv = some (.int x)) (k : AW X mi (pc + 2) lv (.int x :: rest) h bc bs Q) : AW X mi pc lv (rest) h bc bs Q :=
  fun n0 p l e R s m args below meth c β D dA ad0 sa Qf C ad H locs cells slots ls ha hn hR hl hc hs => lv_iload C.1 C.2.1 d (tl_at hl hx) (k n0 p l e R s m args below meth c β D dA ad0 sa Qf C ad H locs cells slots ls ha hn hR hl hc hs)
theorem a_istore_n {j : Fin 4} {i : Nat} {x : Int32} {lv' : List (Nat × Value)} (d : decode (mB mi) pc = .ok (.istore_n j, 1)) (hi : (j : Nat) = i) (hb : Nat.ble (i + 1) (mL mi) = true) (hv : sto 1 i (.int x) lv = lv') (k : AW X mi (pc + 1) lv' rest h bc bs Q) : AW X mi pc lv (.int x :: rest) h bc bs Q :=
  fun n0 p l e R s m args below meth c β D dA ad0 sa Qf C ad H locs cells slots ls ha hn hR hl hc hs => lv_istore_n C.1 C.2.1 d hi hl (Nat.le_of_ble_eq_true hb) rfl (fun ls hl => k n0 p l e R s m args below meth c β D dA ad0 sa Qf C ad H locs cells slots ls ha hn hR (hv ▸ tl_sto1 hl) hc hs)
theorem a_istore {i : Nat} {x : Int32} {lv' : List (Nat × Value)} (d : decode (mB mi) pc = .ok (.istore i, 2)) (hb : Nat.ble (i + 1) (mL mi) = true) (hv : sto 1 i (.int x) lv = lv') (k : AW X mi (pc + 2) lv' rest h bc bs Q) : AW X mi pc lv (.int x :: rest) h bc bs Q :=
  fun n0 p l e R s m args below meth c β D dA ad0 sa Qf C ad H locs cells slots ls ha hn hR hl hc hs => lv_istore C.1 C.2.1 d hl (Nat.le_of_ble_eq_true hb) rfl (fun ls hl => k n0 p l e R s m args below meth c β D dA ad0 sa Qf C ad H locs cells slots ls ha hn hR (hv ▸ tl_sto1 hl) hc hs)
theorem a_lload_n {j : Fin 4} {i : Nat} {x : Int64} (d : decode (mB mi) pc = .ok (.lload_n j, 1)) (hi : (j : Nat) = i) (hx : lkp i lv = some (.long x)) (k : AW X mi (pc + 1) lv (.long x :: rest) h bc bs Q) : AW X mi pc lv (rest) h bc bs Q :=
  fun n0 p l e R s m args below meth c β D dA ad0 sa Qf C ad H locs cells slots ls ha hn hR hl hc hs => lv_lload_n C.1 C.2.1 d hi (tl_at hl hx) (k n0 p l e R s m args below meth c β D dA ad0 sa Qf C ad H locs cells slots ls ha hn hR hl hc hs)
theorem a_lload {i : Nat} {x : Int64} (d : decode (mB mi) pc = .ok (.lload i, 2)) (hx : lkp i lv = some (.long x)) (k : AW X mi (pc + 2) lv (.long x :: rest) h bc bs Q) : AW X mi pc lv (rest) h bc bs Q :=
  fun n0 p l e R s m args below meth c β D dA ad0 sa Qf C ad H locs cells slots ls ha hn hR hl hc hs => lv_lload C.1 C.2.1 d (tl_at hl hx) (k n0 p l e R s m args below meth c β D dA ad0 sa Qf C ad H locs cells slots ls ha hn hR hl hc hs)
theorem a_lstore_n {j : Fin 4} {i : Nat} {x : Int64} {lv' : List (Nat × Value)} (d : decode (mB mi) pc = .ok (.lstore_n j, 1)) (hi : (j : Nat) = i) (hb : Nat.ble (i + 2) (mL mi) = true) (hv : sto 2 i (.long x) lv = lv') (k : AW X mi (pc + 1) lv' rest h bc bs Q) : AW X mi pc lv (.long x :: rest) h bc bs Q :=
  fun n0 p l e R s m args below meth c β D dA ad0 sa Qf C ad H locs cells slots ls ha hn hR hl hc hs => lv_lstore_n C.1 C.2.1 d hi hl (Nat.le_of_ble_eq_true hb) rfl (fun ls hl => k n0 p l e R s m args below meth c β D dA ad0 sa Qf C ad H locs cells slots ls ha hn hR (hv ▸ tl_sto2 hl) hc hs)
theorem a_lstore {i : Nat} {x : Int64} {lv' : List (Nat × Value)} (d : decode (mB mi) pc = .ok (.lstore i, 2)) (hb : Nat.ble (i + 2) (mL mi) = true) (hv : sto 2 i (.long x) lv = lv') (k : AW X mi (pc + 2) lv' rest h bc bs Q) : AW X mi pc lv (.long x :: rest) h bc bs Q :=
  fun n0 p l e R s m args below meth c β D dA ad0 sa Qf C ad H locs cells slots ls ha hn hR hl hc hs => lv_lstore C.1 C.2.1 d hl (Nat.le_of_ble_eq_true hb) rfl (fun ls hl => k n0 p l e R s m args below meth c β D dA ad0 sa Qf C ad H locs cells slots ls ha hn hR (hv ▸ tl_sto2 hl) hc hs)
theorem a_aload_n {j : Fin 4} {i : Nat} {x : Nat} (d : decode (mB mi) pc = .ok (.aload_n j, 1)) (hi : (j : Nat) = i) (hx : lkp i lv = some (.ref x)) (k : AW X mi (pc + 1) lv (.ref x :: rest) h bc bs Q) : AW X mi pc lv (rest) h bc bs Q :=
  fun n0 p l e R s m args below meth c β D dA ad0 sa Qf C ad H locs cells slots ls ha hn hR hl hc hs => lv_aload_n C.1 C.2.1 d hi (tl_at hl hx) (k n0 p l e R s m args below meth c β D dA ad0 sa Qf C ad H locs cells slots ls ha hn hR hl hc hs)
theorem a_aload {i : Nat} {x : Nat} (d : decode (mB mi) pc = .ok (.aload i, 2)) (hx : lkp i lv = some (.ref x)) (k : AW X mi (pc + 2) lv (.ref x :: rest) h bc bs Q) : AW X mi pc lv (rest) h bc bs Q :=
  fun n0 p l e R s m args below meth c β D dA ad0 sa Qf C ad H locs cells slots ls ha hn hR hl hc hs => lv_aload C.1 C.2.1 d (tl_at hl hx) (k n0 p l e R s m args below meth c β D dA ad0 sa Qf C ad H locs cells slots ls ha hn hR hl hc hs)
theorem a_astore_n {j : Fin 4} {i : Nat} {x : Nat} {lv' : List (Nat × Value)} (d : decode (mB mi) pc = .ok (.astore_n j, 1)) (hi : (j : Nat) = i) (hb : Nat.ble (i + 1) (mL mi) = true) (hv : sto 1 i (.ref x) lv = lv') (k : AW X mi (pc + 1) lv' rest h bc bs Q) : AW X mi pc lv (.ref x :: rest) h bc bs Q :=
  fun n0 p l e R s m args below meth c β D dA ad0 sa Qf C ad H locs cells slots ls ha hn hR hl hc hs => lv_astore_n C.1 C.2.1 d hi hl (Nat.le_of_ble_eq_true hb) rfl (fun ls hl => k n0 p l e R s m args below meth c β D dA ad0 sa Qf C ad H locs cells slots ls ha hn hR (hv ▸ tl_sto1 hl) hc hs)
theorem a_astore {i : Nat} {x : Nat} {lv' : List (Nat × Value)} (d : decode (mB mi) pc = .ok (.astore i, 2)) (hb : Nat.ble (i + 1) (mL mi) = true) (hv : sto 1 i (.ref x) lv = lv') (k : AW X mi (pc + 2) lv' rest h bc bs Q) : AW X mi pc lv (.ref x :: rest) h bc bs Q :=
  fun n0 p l e R s m args below meth c β D dA ad0 sa Qf C ad H locs cells slots ls ha hn hR hl hc hs => lv_astore C.1 C.2.1 d hl (Nat.le_of_ble_eq_true hb) rfl (fun ls hl => k n0 p l e R s m args below meth c β D dA ad0 sa Qf C ad H locs cells slots ls ha hn hR (hv ▸ tl_sto1 hl) hc hs)
theorem a_fload_n {j : Fin 4} {i : Nat} {x : UInt32} (d : decode (mB mi) pc = .ok (.fload_n j, 1)) (hi : (j : Nat) = i) (hx : lkp i lv = some (.float x)) (k : AW X mi (pc + 1) lv (.float x :: rest) h bc bs Q) : AW X mi pc lv (rest) h bc bs Q :=
  fun n0 p l e R s m args below meth c β D dA ad0 sa Qf C ad H locs cells slots ls ha hn hR hl hc hs => lv_fload_n C.1 C.2.1 d hi (tl_at hl hx) (k n0 p l e R s m args below meth c β D dA ad0 sa Qf C ad H locs cells slots ls ha hn hR hl hc hs)
theorem a_fload {i : Nat} {x : UInt32} (d : decode (mB mi) pc = .ok (.fload i, 2)) (hx : lkp i lv = some (.float x)) (k : AW X mi (pc + 2) lv (.float x :: rest) h bc bs Q) : AW X mi pc lv (rest) h bc bs Q :=
  fun n0 p l e R s m args below meth c β D dA ad0 sa Qf C ad H locs cells slots ls ha hn hR hl hc hs => lv_fload C.1 C.2.1 d (tl_at hl hx) (k n0 p l e R s m args below meth c β D dA ad0 sa Qf C ad H locs cells slots ls ha hn hR hl hc hs)
theorem a_fstore_n {j : Fin 4} {i : Nat} {x : UInt32} {lv' : List (Nat × Value)} (d : decode (mB mi) pc = .ok (.fstore_n j, 1)) (hi : (j : Nat) = i) (hb : Nat.ble (i + 1) (mL mi) = true) (hv : sto 1 i (.float x) lv = lv') (k : AW X mi (pc + 1) lv' rest h bc bs Q) : AW X mi pc lv (.float x :: rest) h bc bs Q :=
  fun n0 p l e R s m args below meth c β D dA ad0 sa Qf C ad H locs cells slots ls ha hn hR hl hc hs => lv_fstore_n C.1 C.2.1 d hi hl (Nat.le_of_ble_eq_true hb) rfl (fun ls hl => k n0 p l e R s m args below meth c β D dA ad0 sa Qf C ad H locs cells slots ls ha hn hR (hv ▸ tl_sto1 hl) hc hs)
theorem a_fstore {i : Nat} {x : UInt32} {lv' : List (Nat × Value)} (d : decode (mB mi) pc = .ok (.fstore i, 2)) (hb : Nat.ble (i + 1) (mL mi) = true) (hv : sto 1 i (.float x) lv = lv') (k : AW X mi (pc + 2) lv' rest h bc bs Q) : AW X mi pc lv (.float x :: rest) h bc bs Q :=
  fun n0 p l e R s m args below meth c β D dA ad0 sa Qf C ad H locs cells slots ls ha hn hR hl hc hs => lv_fstore C.1 C.2.1 d hl (Nat.le_of_ble_eq_true hb) rfl (fun ls hl => k n0 p l e R s m args below meth c β D dA ad0 sa Qf C ad H locs cells slots ls ha hn hR (hv ▸ tl_sto1 hl) hc hs)
theorem a_dload_n {j : Fin 4} {i : Nat} {x : UInt64} (d : decode (mB mi) pc = .ok (.dload_n j, 1)) (hi : (j : Nat) = i) (hx : lkp i lv = some (.double x)) (k : AW X mi (pc + 1) lv (.double x :: rest) h bc bs Q) : AW X mi pc lv (rest) h bc bs Q :=
  fun n0 p l e R s m args below meth c β D dA ad0 sa Qf C ad H locs cells slots ls ha hn hR hl hc hs => lv_dload_n C.1 C.2.1 d hi (tl_at hl hx) (k n0 p l e R s m args below meth c β D dA ad0 sa Qf C ad H locs cells slots ls ha hn hR hl hc hs)
theorem a_dload {i : Nat} {x : UInt64} (d : decode (mB mi) pc = .ok (.dload i, 2)) (hx : lkp i lv = some (.double x)) (k : AW X mi (pc + 2) lv (.double x :: rest) h bc bs Q) : AW X mi pc lv (rest) h bc bs Q :=
  fun n0 p l e R s m args below meth c β D dA ad0 sa Qf C ad H locs cells slots ls ha hn hR hl hc hs => lv_dload C.1 C.2.1 d (tl_at hl hx) (k n0 p l e R s m args below meth c β D dA ad0 sa Qf C ad H locs cells slots ls ha hn hR hl hc hs)
theorem a_dstore_n {j : Fin 4} {i : Nat} {x : UInt64} {lv' : List (Nat × Value)} (d : decode (mB mi) pc = .ok (.dstore_n j, 1)) (hi : (j : Nat) = i) (hb : Nat.ble (i + 2) (mL mi) = true) (hv : sto 2 i (.double x) lv = lv') (k : AW X mi (pc + 1) lv' rest h bc bs Q) : AW X mi pc lv (.double x :: rest) h bc bs Q :=
  fun n0 p l e R s m args below meth c β D dA ad0 sa Qf C ad H locs cells slots ls ha hn hR hl hc hs => lv_dstore_n C.1 C.2.1 d hi hl (Nat.le_of_ble_eq_true hb) rfl (fun ls hl => k n0 p l e R s m args below meth c β D dA ad0 sa Qf C ad H locs cells slots ls ha hn hR (hv ▸ tl_sto2 hl) hc hs)
theorem a_dstore {i : Nat} {x : UInt64} {lv' : List (Nat × Value)} (d : decode (mB mi) pc = .ok (.dstore i, 2)) (hb : Nat.ble (i + 2) (mL mi) = true) (hv : sto 2 i (.double x) lv = lv') (k : AW X mi (pc + 2) lv' rest h bc bs Q) : AW X mi pc lv (.double x :: rest) h bc bs Q :=
  fun n0 p l e R s m args below meth c β D dA ad0 sa Qf C ad H locs cells slots ls ha hn hR hl hc hs => lv_dstore C.1 C.2.1 d hl (Nat.le_of_ble_eq_true hb) rfl (fun ls hl => k n0 p l e R s m args below meth c β D dA ad0 sa Qf C ad H locs cells slots ls ha hn hR (hv ▸ tl_sto2 hl) hc hs)
theorem a_iinc {i : Nat} {n : Int} {x v : Int32} {lv' : List (Nat × Value)} (d : decode (mB mi) pc = .ok (.iinc i n, 3)) (hb : Nat.ble (i + 1) (mL mi) = true) (hx : lkp i lv = some (.int x)) (hw : x + Int32.ofInt n = v) (hv : sto 1 i (.int v) lv = lv') (k : AW X mi (pc + 3) lv' rest h bc bs Q) : AW X mi pc lv rest h bc bs Q := by
  intro n0 p l e R s m args below meth c β D dA ad0 sa Qf C ad H locs cells slots ls ha hn hR hl hc hs
  obtain ⟨j, hj⟩ := List.getElem?_of_mem (List.mem_map.mpr ⟨(i, Value.int x), lkp_in hx, rfl⟩ : (i, tv ad (Value.int x)) ∈ tl ad lv)
  exact lv_iinc C.1 C.2.1 d hl hj hw (Nat.le_of_ble_eq_true hb) rfl (fun ls hl => k n0 p l e R s m args below meth c β D dA ad0 sa Qf C ad H locs cells slots ls ha hn hR (hv ▸ tl_sto1 hl) hc hs)
theorem a_iadd {x y : Int32} (d : decode (mB mi) pc = .ok (.iadd, 1))  (k : AW X mi (pc + 1) lv (.int (x + y) :: rest) h bc bs Q) : AW X mi pc lv (.int y :: .int x :: rest) h bc bs Q :=
  fun n0 p l e R s m args below meth c β D dA ad0 sa Qf C ad H locs cells slots ls ha hn hR hl hc hs => lv_iadd C.1 C.2.1 d  (k n0 p l e R s m args below meth c β D dA ad0 sa Qf C ad H locs cells slots ls ha hn hR hl hc hs)
theorem a_isub {x y : Int32} (d : decode (mB mi) pc = .ok (.isub, 1))  (k : AW X mi (pc + 1) lv (.int (x - y) :: rest) h bc bs Q) : AW X mi pc lv (.int y :: .int x :: rest) h bc bs Q :=
  fun n0 p l e R s m args below meth c β D dA ad0 sa Qf C ad H locs cells slots ls ha hn hR hl hc hs => lv_isub C.1 C.2.1 d  (k n0 p l e R s m args below meth c β D dA ad0 sa Qf C ad H locs cells slots ls ha hn hR hl hc hs)
theorem a_imul {x y : Int32} (d : decode (mB mi) pc = .ok (.imul, 1))  (k : AW X mi (pc + 1) lv (.int (x * y) :: rest) h bc bs Q) : AW X mi pc lv (.int y :: .int x :: rest) h bc bs Q :=
  fun n0 p l e R s m args below meth c β D dA ad0 sa Qf C ad H locs cells slots ls ha hn hR hl hc hs => lv_imul C.1 C.2.1 d  (k n0 p l e R s m args below meth c β D dA ad0 sa Qf C ad H locs cells slots ls ha hn hR hl hc hs)
theorem a_iand {x y : Int32} (d : decode (mB mi) pc = .ok (.iand, 1))  (k : AW X mi (pc + 1) lv (.int (x &&& y) :: rest) h bc bs Q) : AW X mi pc lv (.int y :: .int x :: rest) h bc bs Q :=
  fun n0 p l e R s m args below meth c β D dA ad0 sa Qf C ad H locs cells slots ls ha hn hR hl hc hs => lv_iand C.1 C.2.1 d  (k n0 p l e R s m args below meth c β D dA ad0 sa Qf C ad H locs cells slots ls ha hn hR hl hc hs)
theorem a_ior {x y : Int32} (d : decode (mB mi) pc = .ok (.ior, 1))  (k : AW X mi (pc + 1) lv (.int (x ||| y) :: rest) h bc bs Q) : AW X mi pc lv (.int y :: .int x :: rest) h bc bs Q :=
  fun n0 p l e R s m args below meth c β D dA ad0 sa Qf C ad H locs cells slots ls ha hn hR hl hc hs => lv_ior C.1 C.2.1 d  (k n0 p l e R s m args below meth c β D dA ad0 sa Qf C ad H locs cells slots ls ha hn hR hl hc hs)
theorem a_ixor {x y : Int32} (d : decode (mB mi) pc = .ok (.ixor, 1))  (k : AW X mi (pc + 1) lv (.int (x ^^^ y) :: rest) h bc bs Q) : AW X mi pc lv (.int y :: .int x :: rest) h bc bs Q :=
  fun n0 p l e R s m args below meth c β D dA ad0 sa Qf C ad H locs cells slots ls ha hn hR hl hc hs => lv_ixor C.1 C.2.1 d  (k n0 p l e R s m args below meth c β D dA ad0 sa Qf C ad H locs cells slots ls ha hn hR hl hc hs)
theorem a_ladd {x y : Int64} (d : decode (mB mi) pc = .ok (.ladd, 1))  (k : AW X mi (pc + 1) lv (.long (x + y) :: rest) h bc bs Q) : AW X mi pc lv (.long y :: .long x :: rest) h bc bs Q :=
  fun n0 p l e R s m args below meth c β D dA ad0 sa Qf C ad H locs cells slots ls ha hn hR hl hc hs => lv_ladd C.1 C.2.1 d  (k n0 p l e R s m args below meth c β D dA ad0 sa Qf C ad H locs cells slots ls ha hn hR hl hc hs)
theorem a_lmul {x y : Int64} (d : decode (mB mi) pc = .ok (.lmul, 1))  (k : AW X mi (pc + 1) lv (.long (x * y) :: rest) h bc bs Q) : AW X mi pc lv (.long y :: .long x :: rest) h bc bs Q :=
  fun n0 p l e R s m args below meth c β D dA ad0 sa Qf C ad H locs cells slots ls ha hn hR hl hc hs => lv_lmul C.1 C.2.1 d  (k n0 p l e R s m args below meth c β D dA ad0 sa Qf C ad H locs cells slots ls ha hn hR hl hc hs)
theorem a_lsub {x y : Int64} (d : decode (mB mi) pc = .ok (.lsub, 1))  (k : AW X mi (pc + 1) lv (.long (x - y) :: rest) h bc bs Q) : AW X mi pc lv (.long y :: .long x :: rest) h bc bs Q :=
  fun n0 p l e R s m args below meth c β D dA ad0 sa Qf C ad H locs cells slots ls ha hn hR hl hc hs => lv_lsub C.1 C.2.1 d  (k n0 p l e R s m args below meth c β D dA ad0 sa Qf C ad H locs cells slots ls ha hn hR hl hc hs)
theorem a_land {x y : Int64} (d : decode (mB mi) pc = .ok (.land, 1))  (k : AW X mi (pc + 1) lv (.long (x &&& y) :: rest) h bc bs Q) : AW X mi pc lv (.long y :: .long x :: rest) h bc bs Q :=
  fun n0 p l e R s m args below meth c β D dA ad0 sa Qf C ad H locs cells slots ls ha hn hR hl hc hs => lv_land C.1 C.2.1 d  (k n0 p l e R s m args below meth c β D dA ad0 sa Qf C ad H locs cells slots ls ha hn hR hl hc hs)
theorem a_lor {x y : Int64} (d : decode (mB mi) pc = .ok (.lor, 1))  (k : AW X mi (pc + 1) lv (.long (x ||| y) :: rest) h bc bs Q) : AW X mi pc lv (.long y :: .long x :: rest) h bc bs Q :=
  fun n0 p l e R s m args below meth c β D dA ad0 sa Qf C ad H locs cells slots ls ha hn hR hl hc hs => lv_lor C.1 C.2.1 d  (k n0 p l e R s m args below meth c β D dA ad0 sa Qf C ad H locs cells slots ls ha hn hR hl hc hs)
theorem a_ishl {x y : Int32} (d : decode (mB mi) pc = .ok (.ishl, 1))  (k : AW X mi (pc + 1) lv (.int (x <<< (y &&& 31)) :: rest) h bc bs Q) : AW X mi pc lv (.int y :: .int x :: rest) h bc bs Q :=
  fun n0 p l e R s m args below meth c β D dA ad0 sa Qf C ad H locs cells slots ls ha hn hR hl hc hs => lv_ishl C.1 C.2.1 d  (k n0 p l e R s m args below meth c β D dA ad0 sa Qf C ad H locs cells slots ls ha hn hR hl hc hs)
theorem a_ishr {x y : Int32} (d : decode (mB mi) pc = .ok (.ishr, 1))  (k : AW X mi (pc + 1) lv (.int (x >>> (y &&& 31)) :: rest) h bc bs Q) : AW X mi pc lv (.int y :: .int x :: rest) h bc bs Q :=
  fun n0 p l e R s m args below meth c β D dA ad0 sa Qf C ad H locs cells slots ls ha hn hR hl hc hs => lv_ishr C.1 C.2.1 d  (k n0 p l e R s m args below meth c β D dA ad0 sa Qf C ad H locs cells slots ls ha hn hR hl hc hs)
theorem a_idiv {x y : Int32} (d : decode (mB mi) pc = .ok (.idiv, 1)) (hne : ¬ y = 0) (k : AW X mi (pc + 1) lv (.int (x / y) :: rest) h bc bs Q) : AW X mi pc lv (.int y :: .int x :: rest) h bc bs Q :=
  fun n0 p l e R s m args below meth c β D dA ad0 sa Qf C ad H locs cells slots ls ha hn hR hl hc hs => lv_idiv C.1 C.2.1 d hne (k n0 p l e R s m args below meth c β D dA ad0 sa Qf C ad H locs cells slots ls ha hn hR hl hc hs)
theorem a_ldiv {x y : Int64} (d : decode (mB mi) pc = .ok (.ldiv, 1)) (hne : ¬ y = 0) (k : AW X mi (pc + 1) lv (.long (x / y) :: rest) h bc bs Q) : AW X mi pc lv (.long y :: .long x :: rest) h bc bs Q :=
  fun n0 p l e R s m args below meth c β D dA ad0 sa Qf C ad H locs cells slots ls ha hn hR hl hc hs => lv_ldiv C.1 C.2.1 d hne (k n0 p l e R s m args below meth c β D dA ad0 sa Qf C ad H locs cells slots ls ha hn hR hl hc hs)
theorem a_lrem {x y : Int64} (d : decode (mB mi) pc = .ok (.lrem, 1)) (hne : ¬ y = 0) (k : AW X mi (pc + 1) lv (.long (x - x / y * y) :: rest) h bc bs Q) : AW X mi pc lv (.long y :: .long x :: rest) h bc bs Q :=
  fun n0 p l e R s m args below meth c β D dA ad0 sa Qf C ad H locs cells slots ls ha hn hR hl hc hs => lv_lrem C.1 C.2.1 d hne (k n0 p l e R s m args below meth c β D dA ad0 sa Qf C ad H locs cells slots ls ha hn hR hl hc hs)
theorem a_dup2 {v w : Value} (d : decode (mB mi) pc = .ok (.dup2, 1)) (hv : v.category = 1) (hw : w.category = 1) (k : AW X mi (pc + 1) lv (v :: w :: v :: w :: rest) h bc bs Q) : AW X mi pc lv (v :: w :: rest) h bc bs Q :=
  fun n0 p l e R s m args below meth c β D dA ad0 sa Qf C ad H locs cells slots ls ha hn hR hl hc hs => lv_dup2_11 C.1 C.2.1 d ((tv_cat ad v).trans hv) ((tv_cat ad w).trans hw) (k n0 p l e R s m args below meth c β D dA ad0 sa Qf C ad H locs cells slots ls ha hn hR hl hc hs)
theorem a_ifnull {x : Nat} {off : Int} (d : decode (mB mi) pc = .ok (.ifnull off, 3))  (k : AW X mi (pc + 3) lv (rest) h bc bs Q) : AW X mi pc lv (.ref x :: rest) h bc bs Q :=
  fun n0 p l e R s m args below meth c β D dA ad0 sa Qf C ad H locs cells slots ls ha hn hR hl hc hs => lv_ifnull C.1 C.2.1 d  (k n0 p l e R s m args below meth c β D dA ad0 sa Qf C ad H locs cells slots ls ha hn hR hl hc hs)
theorem a_irem {x y : Int32} (d : decode (mB mi) pc = .ok (.irem, 1)) (hne : ¬ y = 0) (k : AW X mi (pc + 1) lv (.int (x - x / y * y) :: rest) h bc bs Q) : AW X mi pc lv (.int y :: .int x :: rest) h bc bs Q :=
  fun n0 p l e R s m args below meth c β D dA ad0 sa Qf C ad H locs cells slots ls ha hn hR hl hc hs => lv_irem C.1 C.2.1 d hne (k n0 p l e R s m args below meth c β D dA ad0 sa Qf C ad H locs cells slots ls ha hn hR hl hc hs)
theorem a_iushr {x y : Int32} (d : decode (mB mi) pc = .ok (.iushr, 1))  (k : AW X mi (pc + 1) lv (.int (x.toUInt32 >>> (y.toUInt32 &&& Int32.toUInt32 31)).toInt32 :: rest) h bc bs Q) : AW X mi pc lv (.int y :: .int x :: rest) h bc bs Q :=
  fun n0 p l e R s m args below meth c β D dA ad0 sa Qf C ad H locs cells slots ls ha hn hR hl hc hs => lv_iushr C.1 C.2.1 d rfl (k n0 p l e R s m args below meth c β D dA ad0 sa Qf C ad H locs cells slots ls ha hn hR hl hc hs)
theorem a_lushr {x : Int64} {y : Int32} (d : decode (mB mi) pc = .ok (.lushr, 1))  (k : AW X mi (pc + 1) lv (.long (x.toUInt64 >>> (y.toInt64.toUInt64 &&& Int64.toUInt64 63)).toInt64 :: rest) h bc bs Q) : AW X mi pc lv (.int y :: .long x :: rest) h bc bs Q :=
  fun n0 p l e R s m args below meth c β D dA ad0 sa Qf C ad H locs cells slots ls ha hn hR hl hc hs => lv_lushr C.1 C.2.1 d rfl (k n0 p l e R s m args below meth c β D dA ad0 sa Qf C ad H locs cells slots ls ha hn hR hl hc hs)
theorem a_lshl {x : Int64} {y : Int32} (d : decode (mB mi) pc = .ok (.lshl, 1))  (k : AW X mi (pc + 1) lv (.long (x <<< (y.toInt64 &&& 63)) :: rest) h bc bs Q) : AW X mi pc lv (.int y :: .long x :: rest) h bc bs Q :=
  fun n0 p l e R s m args below meth c β D dA ad0 sa Qf C ad H locs cells slots ls ha hn hR hl hc hs => lv_lshl C.1 C.2.1 d rfl (k n0 p l e R s m args below meth c β D dA ad0 sa Qf C ad H locs cells slots ls ha hn hR hl hc hs)
theorem a_lshr {x : Int64} {y : Int32} (d : decode (mB mi) pc = .ok (.lshr, 1))  (k : AW X mi (pc + 1) lv (.long (x >>> (y.toInt64 &&& 63)) :: rest) h bc bs Q) : AW X mi pc lv (.int y :: .long x :: rest) h bc bs Q :=
  fun n0 p l e R s m args below meth c β D dA ad0 sa Qf C ad H locs cells slots ls ha hn hR hl hc hs => lv_lshr C.1 C.2.1 d rfl (k n0 p l e R s m args below meth c β D dA ad0 sa Qf C ad H locs cells slots ls ha hn hR hl hc hs)
theorem a_lcmp {x y : Int64} (d : decode (mB mi) pc = .ok (.lcmp, 1))  (k : AW X mi (pc + 1) lv (.int (lg_cmp x y) :: rest) h bc bs Q) : AW X mi pc lv (.long y :: .long x :: rest) h bc bs Q :=
  fun n0 p l e R s m args below meth c β D dA ad0 sa Qf C ad H locs cells slots ls ha hn hR hl hc hs => W.lcmp C.1 C.2.1 d  (k n0 p l e R s m args below meth c β D dA ad0 sa Qf C ad H locs cells slots ls ha hn hR hl hc hs)
theorem a_i2l {x : Int32} (d : decode (mB mi) pc = .ok (.i2l, 1))  (k : AW X mi (pc + 1) lv (.long x.toInt64 :: rest) h bc bs Q) : AW X mi pc lv (.int x :: rest) h bc bs Q :=
  fun n0 p l e R s m args below meth c β D dA ad0 sa Qf C ad H locs cells slots ls ha hn hR hl hc hs => lv_i2l C.1 C.2.1 d rfl (k n0 p l e R s m args below meth c β D dA ad0 sa Qf C ad H locs cells slots ls ha hn hR hl hc hs)
theorem a_l2i {x : Int64} (d : decode (mB mi) pc = .ok (.l2i, 1))  (k : AW X mi (pc + 1) lv (.int x.toInt32 :: rest) h bc bs Q) : AW X mi pc lv (.long x :: rest) h bc bs Q :=
  fun n0 p l e R s m args below meth c β D dA ad0 sa Qf C ad H locs cells slots ls ha hn hR hl hc hs => lv_l2i C.1 C.2.1 d rfl (k n0 p l e R s m args below meth c β D dA ad0 sa Qf C ad H locs cells slots ls ha hn hR hl hc hs)
theorem a_i2c {x : Int32} (d : decode (mB mi) pc = .ok (.i2c, 1))  (k : AW X mi (pc + 1) lv (.int (x.toUInt32 % 65536).toInt32 :: rest) h bc bs Q) : AW X mi pc lv (.int x :: rest) h bc bs Q :=
  fun n0 p l e R s m args below meth c β D dA ad0 sa Qf C ad H locs cells slots ls ha hn hR hl hc hs => lv_i2c C.1 C.2.1 d rfl (k n0 p l e R s m args below meth c β D dA ad0 sa Qf C ad H locs cells slots ls ha hn hR hl hc hs)
theorem a_i2f {x : Int32} (d : decode (mB mi) pc = .ok (.i2f, 1))  (k : AW X mi (pc + 1) lv (.float (FP.i2f x) :: rest) h bc bs Q) : AW X mi pc lv (.int x :: rest) h bc bs Q :=
  fun n0 p l e R s m args below meth c β D dA ad0 sa Qf C ad H locs cells slots ls ha hn hR hl hc hs => lv_i2f C.1 C.2.1 d  (k n0 p l e R s m args below meth c β D dA ad0 sa Qf C ad H locs cells slots ls ha hn hR hl hc hs)
theorem a_i2d {x : Int32} (d : decode (mB mi) pc = .ok (.i2d, 1))  (k : AW X mi (pc + 1) lv (.double (FP.i2d x) :: rest) h bc bs Q) : AW X mi pc lv (.int x :: rest) h bc bs Q :=
  fun n0 p l e R s m args below meth c β D dA ad0 sa Qf C ad H locs cells slots ls ha hn hR hl hc hs => lv_i2d C.1 C.2.1 d  (k n0 p l e R s m args below meth c β D dA ad0 sa Qf C ad H locs cells slots ls ha hn hR hl hc hs)
theorem a_l2d {x : Int64} (d : decode (mB mi) pc = .ok (.l2d, 1))  (k : AW X mi (pc + 1) lv (.double (FP.l2d x) :: rest) h bc bs Q) : AW X mi pc lv (.long x :: rest) h bc bs Q :=
  fun n0 p l e R s m args below meth c β D dA ad0 sa Qf C ad H locs cells slots ls ha hn hR hl hc hs => lv_l2d C.1 C.2.1 d  (k n0 p l e R s m args below meth c β D dA ad0 sa Qf C ad H locs cells slots ls ha hn hR hl hc hs)
theorem a_f2d {x : UInt32} (d : decode (mB mi) pc = .ok (.f2d, 1)) (hne : vf_n64 (FP.f2d x)) (k : AW X mi (pc + 1) lv (.double (FP.f2d x) :: rest) h bc bs Q) : AW X mi pc lv (.float x :: rest) h bc bs Q :=
  fun n0 p l e R s m args below meth c β D dA ad0 sa Qf C ad H locs cells slots ls ha hn hR hl hc hs => lv_f2d C.1 C.2.1 d hne (k n0 p l e R s m args below meth c β D dA ad0 sa Qf C ad H locs cells slots ls ha hn hR hl hc hs)
theorem a_fdiv {x y : UInt32} (d : decode (mB mi) pc = .ok (.fdiv, 1)) (hne : vf_n32 (FP.fdiv x y)) (k : AW X mi (pc + 1) lv (.float (FP.fdiv x y) :: rest) h bc bs Q) : AW X mi pc lv (.float y :: .float x :: rest) h bc bs Q :=
  fun n0 p l e R s m args below meth c β D dA ad0 sa Qf C ad H locs cells slots ls ha hn hR hl hc hs => lv_fdiv C.1 C.2.1 d hne (k n0 p l e R s m args below meth c β D dA ad0 sa Qf C ad H locs cells slots ls ha hn hR hl hc hs)
theorem a_ddiv {x y : UInt64} (d : decode (mB mi) pc = .ok (.ddiv, 1)) (hne : vf_n64 (FP.ddiv x y)) (k : AW X mi (pc + 1) lv (.double (FP.ddiv x y) :: rest) h bc bs Q) : AW X mi pc lv (.double y :: .double x :: rest) h bc bs Q :=
  fun n0 p l e R s m args below meth c β D dA ad0 sa Qf C ad H locs cells slots ls ha hn hR hl hc hs => lv_ddiv C.1 C.2.1 d hne (k n0 p l e R s m args below meth c β D dA ad0 sa Qf C ad H locs cells slots ls ha hn hR hl hc hs)
theorem a_fcmp {x y : UInt32} {op : CmpOp} (d : decode (mB mi) pc = .ok (.fcmp op, 1))  (k : AW X mi (pc + 1) lv (.int (Op.cmpValue (FP.fcmp x y) op) :: rest) h bc bs Q) : AW X mi pc lv (.float y :: .float x :: rest) h bc bs Q :=
  fun n0 p l e R s m args below meth c β D dA ad0 sa Qf C ad H locs cells slots ls ha hn hR hl hc hs => lv_fcmp C.1 C.2.1 d  (k n0 p l e R s m args below meth c β D dA ad0 sa Qf C ad H locs cells slots ls ha hn hR hl hc hs)
theorem a_dcmp {x y : UInt64} {op : CmpOp} (d : decode (mB mi) pc = .ok (.dcmp op, 1))  (k : AW X mi (pc + 1) lv (.int (Op.cmpValue (FP.dcmp x y) op) :: rest) h bc bs Q) : AW X mi pc lv (.double y :: .double x :: rest) h bc bs Q :=
  fun n0 p l e R s m args below meth c β D dA ad0 sa Qf C ad H locs cells slots ls ha hn hR hl hc hs => lv_dcmp C.1 C.2.1 d  (k n0 p l e R s m args below meth c β D dA ad0 sa Qf C ad H locs cells slots ls ha hn hR hl hc hs)
theorem a_dup {v : Value} (d : decode (mB mi) pc = .ok (.dup, 1)) (hv : v.category = 1) (k : AW X mi (pc + 1) lv (v :: v :: rest) h bc bs Q) : AW X mi pc lv (v :: rest) h bc bs Q :=
  fun n0 p l e R s m args below meth c β D dA ad0 sa Qf C ad H locs cells slots ls ha hn hR hl hc hs => lv_dup C.1 C.2.1 d ((tv_cat ad v).trans hv) (k n0 p l e R s m args below meth c β D dA ad0 sa Qf C ad H locs cells slots ls ha hn hR hl hc hs)
theorem a_pop {v : Value} (d : decode (mB mi) pc = .ok (.pop, 1)) (hv : v.category = 1) (k : AW X mi (pc + 1) lv (rest) h bc bs Q) : AW X mi pc lv (v :: rest) h bc bs Q :=
  fun n0 p l e R s m args below meth c β D dA ad0 sa Qf C ad H locs cells slots ls ha hn hR hl hc hs => lv_pop C.1 C.2.1 d ((tv_cat ad v).trans hv) (k n0 p l e R s m args below meth c β D dA ad0 sa Qf C ad H locs cells slots ls ha hn hR hl hc hs)
theorem a_if_eq {x : Int32} {off : Int} {tgt : Nat} (d : decode (mB mi) pc = .ok (.ifCond .eq off, 3)) (ht : (pc : Int) + off = (tgt : Int)) (kt : x = 0 → AW X mi tgt lv rest h bc bs Q) (kf : ¬ x = 0 → AW X mi (pc + 3) lv rest h bc bs Q) : AW X mi pc lv (.int x :: rest) h bc bs Q :=
  fun n0 p l e R s m args below meth c β D dA ad0 sa Qf C ad H locs cells slots ls ha hn hR hl hc hs => lv_if_eq C.1 C.2.1 d ht (fun z => kt z n0 p l e R s m args below meth c β D dA ad0 sa Qf C ad H locs cells slots ls ha hn hR hl hc hs) (fun z => kf z n0 p l e R s m args below meth c β D dA ad0 sa Qf C ad H locs cells slots ls ha hn hR hl hc hs)
theorem a_icmp_eq {x y : Int32} {off : Int} {tgt : Nat} (d : decode (mB mi) pc = .ok (.if_icmp .eq off, 3)) (ht : (pc : Int) + off = (tgt : Int)) (kt : x = y → AW X mi tgt lv rest h bc bs Q) (kf : ¬ x = y → AW X mi (pc + 3) lv rest h bc bs Q) : AW X mi pc lv (.int y :: .int x :: rest) h bc bs Q :=
  fun n0 p l e R s m args below meth c β D dA ad0 sa Qf C ad H locs cells slots ls ha hn hR hl hc hs => lv_icmp_eq C.1 C.2.1 d ht (fun z => kt z n0 p l e R s m args below meth c β D dA ad0 sa Qf C ad H locs cells slots ls ha hn hR hl hc hs) (fun z => kf z n0 p l e R s m args below meth c β D dA ad0 sa Qf C ad H locs cells slots ls ha hn hR hl hc hs)
theorem a_if_ne {x : Int32} {off : Int} {tgt : Nat} (d : decode (mB mi) pc = .ok (.ifCond .ne off, 3)) (ht : (pc : Int) + off = (tgt : Int)) (kt : ¬ x = 0 → AW X mi tgt lv rest h bc bs Q) (kf : x = 0 → AW X mi (pc + 3) lv rest h bc bs Q) : AW X mi pc lv (.int x :: rest) h bc bs Q :=
  fun n0 p l e R s m args below meth c β D dA ad0 sa Qf C ad H locs cells slots ls ha hn hR hl hc hs => lv_if_ne C.1 C.2.1 d ht (fun z => kt z n0 p l e R s m args below meth c β D dA ad0 sa Qf C ad H locs cells slots ls ha hn hR hl hc hs) (fun z => kf z n0 p l e R s m args below meth c β D dA ad0 sa Qf C ad H locs cells slots ls ha hn hR hl hc hs)
theorem a_icmp_ne {x y : Int32} {off : Int} {tgt : Nat} (d : decode (mB mi) pc = .ok (.if_icmp .ne off, 3)) (ht : (pc : Int) + off = (tgt : Int)) (kt : ¬ x = y → AW X mi tgt lv rest h bc bs Q) (kf : x = y → AW X mi (pc + 3) lv rest h bc bs Q) : AW X mi pc lv (.int y :: .int x :: rest) h bc bs Q :=
  fun n0 p l e R s m args below meth c β D dA ad0 sa Qf C ad H locs cells slots ls ha hn hR hl hc hs => lv_icmp_ne C.1 C.2.1 d ht (fun z => kt z n0 p l e R s m args below meth c β D dA ad0 sa Qf C ad H locs cells slots ls ha hn hR hl hc hs) (fun z => kf z n0 p l e R s m args below meth c β D dA ad0 sa Qf C ad H locs cells slots ls ha hn hR hl hc hs)
theorem a_if_lt {x : Int32} {off : Int} {tgt : Nat} (d : decode (mB mi) pc = .ok (.ifCond .lt off, 3)) (ht : (pc : Int) + off = (tgt : Int)) (kt : x < 0 → AW X mi tgt lv rest h bc bs Q) (kf : ¬ x < 0 → AW X mi (pc + 3) lv rest h bc bs Q) : AW X mi pc lv (.int x :: rest) h bc bs Q :=
  fun n0 p l e R s m args below meth c β D dA ad0 sa Qf C ad H locs cells slots ls ha hn hR hl hc hs => lv_if_lt C.1 C.2.1 d ht (fun z => kt z n0 p l e R s m args below meth c β D dA ad0 sa Qf C ad H locs cells slots ls ha hn hR hl hc hs) (fun z => kf z n0 p l e R s m args below meth c β D dA ad0 sa Qf C ad H locs cells slots ls ha hn hR hl hc hs)
theorem a_icmp_lt {x y : Int32} {off : Int} {tgt : Nat} (d : decode (mB mi) pc = .ok (.if_icmp .lt off, 3)) (ht : (pc : Int) + off = (tgt : Int)) (kt : x < y → AW X mi tgt lv rest h bc bs Q) (kf : ¬ x < y → AW X mi (pc + 3) lv rest h bc bs Q) : AW X mi pc lv (.int y :: .int x :: rest) h bc bs Q :=
  fun n0 p l e R s m args below meth c β D dA ad0 sa Qf C ad H locs cells slots ls ha hn hR hl hc hs => lv_icmp_lt C.1 C.2.1 d ht (fun z => kt z n0 p l e R s m args below meth c β D dA ad0 sa Qf C ad H locs cells slots ls ha hn hR hl hc hs) (fun z => kf z n0 p l e R s m args below meth c β D dA ad0 sa Qf C ad H locs cells slots ls ha hn hR hl hc hs)
theorem a_if_ge {x : Int32} {off : Int} {tgt : Nat} (d : decode (mB mi) pc = .ok (.ifCond .ge off, 3)) (ht : (pc : Int) + off = (tgt : Int)) (kt : 0 ≤ x → AW X mi tgt lv rest h bc bs Q) (kf : ¬ 0 ≤ x → AW X mi (pc + 3) lv rest h bc bs Q) : AW X mi pc lv (.int x :: rest) h bc bs Q :=
  fun n0 p l e R s m args below meth c β D dA ad0 sa Qf C ad H locs cells slots ls ha hn hR hl hc hs => lv_if_ge C.1 C.2.1 d ht (fun z => kt z n0 p l e R s m args below meth c β D dA ad0 sa Qf C ad H locs cells slots ls ha hn hR hl hc hs) (fun z => kf z n0 p l e R s m args below meth c β D dA ad0 sa Qf C ad H locs cells slots ls ha hn hR hl hc hs)
theorem a_icmp_ge {x y : Int32} {off : Int} {tgt : Nat} (d : decode (mB mi) pc = .ok (.if_icmp .ge off, 3)) (ht : (pc : Int) + off = (tgt : Int)) (kt : y ≤ x → AW X mi tgt lv rest h bc bs Q) (kf : ¬ y ≤ x → AW X mi (pc + 3) lv rest h bc bs Q) : AW X mi pc lv (.int y :: .int x :: rest) h bc bs Q :=
  fun n0 p l e R s m args below meth c β D dA ad0 sa Qf C ad H locs cells slots ls ha hn hR hl hc hs => lv_icmp_ge C.1 C.2.1 d ht (fun z => kt z n0 p l e R s m args below meth c β D dA ad0 sa Qf C ad H locs cells slots ls ha hn hR hl hc hs) (fun z => kf z n0 p l e R s m args below meth c β D dA ad0 sa Qf C ad H locs cells slots ls ha hn hR hl hc hs)
theorem a_if_gt {x : Int32} {off : Int} {tgt : Nat} (d : decode (mB mi) pc = .ok (.ifCond .gt off, 3)) (ht : (pc : Int) + off = (tgt : Int)) (kt : 0 < x → AW X mi tgt lv rest h bc bs Q) (kf : ¬ 0 < x → AW X mi (pc + 3) lv rest h bc bs Q) : AW X mi pc lv (.int x :: rest) h bc bs Q :=
  fun n0 p l e R s m args below meth c β D dA ad0 sa Qf C ad H locs cells slots ls ha hn hR hl hc hs => lv_if_gt C.1 C.2.1 d ht (fun z => kt z n0 p l e R s m args below meth c β D dA ad0 sa Qf C ad H locs cells slots ls ha hn hR hl hc hs) (fun z => kf z n0 p l e R s m args below meth c β D dA ad0 sa Qf C ad H locs cells slots ls ha hn hR hl hc hs)
theorem a_icmp_gt {x y : Int32} {off : Int} {tgt : Nat} (d : decode (mB mi) pc = .ok (.if_icmp .gt off, 3)) (ht : (pc : Int) + off = (tgt : Int)) (kt : y < x → AW X mi tgt lv rest h bc bs Q) (kf : ¬ y < x → AW X mi (pc + 3) lv rest h bc bs Q) : AW X mi pc lv (.int y :: .int x :: rest) h bc bs Q :=
  fun n0 p l e R s m args below meth c β D dA ad0 sa Qf C ad H locs cells slots ls ha hn hR hl hc hs => lv_icmp_gt C.1 C.2.1 d ht (fun z => kt z n0 p l e R s m args below meth c β D dA ad0 sa Qf C ad H locs cells slots ls ha hn hR hl hc hs) (fun z => kf z n0 p l e R s m args below meth c β D dA ad0 sa Qf C ad H locs cells slots ls ha hn hR hl hc hs)
theorem a_if_le {x : Int32} {off : Int} {tgt : Nat} (d : decode (mB mi) pc = .ok (.ifCond .le off, 3)) (ht : (pc : Int) + off = (tgt : Int)) (kt : x ≤ 0 → AW X mi tgt lv rest h bc bs Q) (kf : ¬ x ≤ 0 → AW X mi (pc + 3) lv rest h bc bs Q) : AW X mi pc lv (.int x :: rest) h bc bs Q :=
  fun n0 p l e R s m args below meth c β D dA ad0 sa Qf C ad H locs cells slots ls ha hn hR hl hc hs => lv_if_le C.1 C.2.1 d ht (fun z => kt z n0 p l e R s m args below meth c β D dA ad0 sa Qf C ad H locs cells slots ls ha hn hR hl hc hs) (fun z => kf z n0 p l e R s m args below meth c β D dA ad0 sa Qf C ad H locs cells slots ls ha hn hR hl hc hs)
theorem a_icmp_le {x y : Int32} {off : Int} {tgt : Nat} (d : decode (mB mi) pc = .ok (.if_icmp .le off, 3)) (ht : (pc : Int) + off = (tgt : Int)) (kt : x ≤ y → AW X mi tgt lv rest h bc bs Q) (kf : ¬ x ≤ y → AW X mi (pc + 3) lv rest h bc bs Q) : AW X mi pc lv (.int y :: .int x :: rest) h bc bs Q :=
  fun n0 p l e R s m args below meth c β D dA ad0 sa Qf C ad H locs cells slots ls ha hn hR hl hc hs => lv_icmp_le C.1 C.2.1 d ht (fun z => kt z n0 p l e R s m args below meth c β D dA ad0 sa Qf C ad H locs cells slots ls ha hn hR hl hc hs) (fun z => kf z n0 p l e R s m args below meth c β D dA ad0 sa Qf C ad H locs cells slots ls ha hn hR hl hc hs)
theorem a_goto {off : Int} {tgt : Nat} (d : decode (mB mi) pc = .ok (.goto off, 3)) (ht : (pc : Int) + off = (tgt : Int)) (k : AW X mi tgt lv rest h bc bs Q) : AW X mi pc lv rest h bc bs Q :=
  fun n0 p l e R s m args below meth c β D dA ad0 sa Qf C ad H locs cells slots ls ha hn hR hl hc hs => lv_goto C.1 C.2.1 d ht (k n0 p l e R s m args below meth c β D dA ad0 sa Qf C ad H locs cells slots ls ha hn hR hl hc hs)
theorem a_tableIn {dflt lo hi : Int} {offs : Array Int} {len : Nat} {x : Int32} {off : Int} {tgt : Nat} (d : decode (mB mi) pc = .ok (.tableswitch dflt lo hi offs, len)) (h1 : ¬ x.toInt < lo) (h2 : ¬ hi < x.toInt) (ho : offs[(x.toInt - lo).toNat]? = some off) (ht : (pc : Int) + off = (tgt : Int)) (k : AW X mi tgt lv rest h bc bs Q) : AW X mi pc lv (.int x :: rest) h bc bs Q :=
  fun n0 p l e R s m args below meth c β D dA ad0 sa Qf C ad H locs cells slots ls ha hn hR hl hc hs => lv_tableIn C.1 C.2.1 d h1 h2 ho ht (k n0 p l e R s m args below meth c β D dA ad0 sa Qf C ad H locs cells slots ls ha hn hR hl hc hs)
theorem a_tableOut {dflt lo hi : Int} {offs : Array Int} {len : Nat} {x : Int32} {tgt : Nat} (d : decode (mB mi) pc = .ok (.tableswitch dflt lo hi offs, len)) (h1 : x.toInt < lo ∨ hi < x.toInt) (ht : (pc : Int) + dflt = (tgt : Int)) (k : AW X mi tgt lv rest h bc bs Q) : AW X mi pc lv (.int x :: rest) h bc bs Q :=
  fun n0 p l e R s m args below meth c β D dA ad0 sa Qf C ad H locs cells slots ls ha hn hR hl hc hs => lv_tableOut C.1 C.2.1 d h1 ht (k n0 p l e R s m args below meth c β D dA ad0 sa Qf C ad H locs cells slots ls ha hn hR hl hc hs)
theorem a_ireturn {x : Int32} (d : decode (mB mi) pc = .ok (.ireturn, 1)) (hr : nr mi x) (k : Q (.inl (some (.int x))) h) : AW X mi pc lv [.int x] h bc bs Q :=
  fun n0 p l e R s m args below meth c β D dA ad0 sa Qf C ad H locs cells slots ls ha hn hR hl hc hs => C.2.2.2.2.2.2.2.2.2.2.2.1 (some (.int x)) h ad H locs cells slots pc ls .ireturn k ⟨x, rfl, hr⟩ d ha hn hR (by omega) (by omega)
theorem a_lreturn {x : Int64} (d : decode (mB mi) pc = .ok (.lreturn, 1)) (hr : mR mi = some .long) (k : Q (.inl (some (.long x))) h) : AW X mi pc lv [.long x] h bc bs Q :=
  fun n0 p l e R s m args below meth c β D dA ad0 sa Qf C ad H locs cells slots ls ha hn hR hl hc hs => C.2.2.2.2.2.2.2.2.2.2.2.1 (some (.long x)) h ad H locs cells slots pc ls .lreturn k ⟨x, rfl, hr⟩ d ha hn hR (by omega) (by omega)
theorem a_freturn {x : UInt32} (d : decode (mB mi) pc = .ok (.freturn, 1)) (hr : mR mi = some .float) (k : Q (.inl (some (.float x))) h) : AW X mi pc lv [.float x] h bc bs Q :=
  fun n0 p l e R s m args below meth c β D dA ad0 sa Qf C ad H locs cells slots ls ha hn hR hl hc hs => C.2.2.2.2.2.2.2.2.2.2.2.1 (some (.float x)) h ad H locs cells slots pc ls .freturn k ⟨x, rfl, hr⟩ d ha hn hR (by omega) (by omega)
theorem a_dreturn {x : UInt64} (d : decode (mB mi) pc = .ok (.dreturn, 1)) (hr : mR mi = some .double) (k : Q (.inl (some (.double x))) h) : AW X mi pc lv [.double x] h bc bs Q :=
  fun n0 p l e R s m args below meth c β D dA ad0 sa Qf C ad H locs cells slots ls ha hn hR hl hc hs => C.2.2.2.2.2.2.2.2.2.2.2.1 (some (.double x)) h ad H locs cells slots pc ls .dreturn k ⟨x, rfl, hr⟩ d ha hn hR (by omega) (by omega)
theorem a_areturn {x : Nat} (d : decode (mB mi) pc = .ok (.areturn, 1)) (hr : ∃ rt, mR mi = some rt ∧ ((∃ n, rt = .object n) ∨ ∃ t, rt = .array t)) (k : Q (.inl (some (.ref x))) h) : AW X mi pc lv [.ref x] h bc bs Q :=
  fun n0 p l e R s m args below meth c β D dA ad0 sa Qf C ad H locs cells slots ls ha hn hR hl hc hs => C.2.2.2.2.2.2.2.2.2.2.2.1 (some (.ref x)) h ad H locs cells slots pc ls .areturn k ⟨x, rfl, hr⟩ d ha hn hR (by omega) (by omega)
theorem a_return (d : decode (mB mi) pc = .ok (.return_, 1)) (hr : mR mi = none) (k : Q (.inl none) h) : AW X mi pc lv [] h bc bs Q :=
  fun n0 p l e R s m args below meth c β D dA ad0 sa Qf C ad H locs cells slots ls ha hn hR hl hc hs => C.2.2.2.2.2.2.2.2.2.2.2.1 none h ad H locs cells slots pc ls .return_ k ⟨rfl, hr⟩ d ha hn hR (by omega) (by omega)
theorem nr_int (h : mR mi = some .int) (x : Int32) : nr mi x := ⟨.int, h, rfl⟩
theorem nr_bool (h : mR mi = some .boolean) {x : Int32} (hx : x = 0 ∨ x = 1) : nr mi x := ⟨.boolean, h, by rcases hx with rfl | rfl <;> rfl⟩
theorem a_throw {en si : Nat} (q : thI mi pc en si) (hb : 1 ≤ bc ∧ 6 ≤ bs) (hw : (rest.map fun v => v.category).sum ≤ 8) (k : Q (.inr en) h) : AW X mi pc lv rest h bc bs Q :=
  fun n0 p l e R s m args below meth c β D dA ad0 sa Qf C ad H locs cells slots ls ha hn hR hl hc hs => C.2.2.2.2.2.2.2.2.2.2.2.2.2.1 en si h ad H locs cells slots pc ls _ k q ha hn hR hl.1 (by rw [List.map_map]; simpa [Function.comp_def, tv_cat] using hw) (by omega) (by omega)
end RULES
