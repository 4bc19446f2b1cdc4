/-! A machine of our own: the heap is a list of cells at handles (their places), handles from 1000 on are static arrays and the script.
AW says: from this place of method mi the real machine comes to an end that Q allows. Its rules (part 07) are proved once, over the kit's rows; the methods are then walked with these rules alone. -/
abbrev AC : Type := (Nat × List Value) ⊕ (Nat × vp_A)
abbrev AH : Type := List AC
abbrev AO : Type := Option Value ⊕ Nat
/-- the script (its length, its ints); how many handles a method found -/
abbrev XS : Type := (Nat × (Nat → Int32)) × Nat
def tv (ad : Nat → Nat) (v : Value) : Value := match v with
  | .ref k => .ref (ad k)
  | v => v
theorem tv_cat (ad : Nat → Nat) (v : Value) : (tv ad v).category = v.category := by cases v <;> rfl
def cE (dA : Nat → ClassId) (ad : Nat → Nat) (c : AC) : va_E := match c with
  | .inl o => .inr (o.1, o.2.map (tv ad))
  | .inr a => .inl (dA a.1, a.2)
def cW (dA : Nat → ClassId) (ad : Nat → Nat) (h : AH) : va_W := h.mapIdx (fun k c => (ad k, cE dA ad c))
theorem cW_get {dA : Nat → ClassId} {ad : Nat → Nat} {h : AH} {k : Nat} {c : AC} (hk : h[k]? = some c) : (cW dA ad h)[k]? = some (ad k, cE dA ad c) := by
  simp [cW, List.getElem?_mapIdx, hk]
theorem cW_inv {dA : Nat → ClassId} {ad : Nat → Nat} {h : AH} {k : Nat} {q : Nat × va_E} (hk : (cW dA ad h)[k]? = some q) : ∃ c, h[k]? = some c ∧ q = (ad k, cE dA ad c) := by
  simp only [cW, List.getElem?_mapIdx] at hk
  cases hc : h[k]? with
  | none => rw [hc] at hk; cases hk
  | some c => rw [hc] at hk; cases hk; exact ⟨c, rfl, rfl⟩
theorem cW_set {dA : Nat → ClassId} {ad : Nat → Nat} {h : AH} {k : Nat} {c : AC} : (cW dA ad h).set k (ad k, cE dA ad c) = cW dA ad (h.set k c) := by
  apply List.ext_getElem?
  intro i
  simp only [cW, List.getElem?_set, List.getElem?_mapIdx, List.length_mapIdx]
  by_cases hi : k = i
  · subst hi
    by_cases hl : k < h.length
    · simp [hl]
    · simp [hl]
  · simp [hi]
def tyl (dA : Nat → ClassId) : List (ClassId × FieldType) := [(dA 0, .int), (dA 1, .long), (dA 2, .char)]
def ro_m (k : Nat) : Int32 := match k with | 0 => 98 | 1 => 108 | _ => 112
def ro_w (k : Nat) : Int32 := match k with | 0 => 3 | 1 => 4 | 2 => 2 | 3 => 5 | 4 => 3 | 5 => 2 | 6 => 6 | _ => 1
def ro_c (k : Nat) : Int32 := match k with | 0 => 0 | 1 => 2 | 2 => 6 | 3 => 0 | 4 => 1 | 5 => 2 | 6 => 2 | 7 => 0 | 8 => 1 | 9 => 0 | 10 => 4 | _ => 3
def roT (X : XS) (k : Nat) : FieldType × Nat × (Nat → Int32) := match k with
  | 0 => (.char, 3, ro_m)
  | 1 => (.int, 8, ro_w)
  | 2 => (.int, 12, ro_c)
  | _ => (.int, X.1.1, X.1.2)
/-- words that aren't good for a callee's list, and are kept all the same -/
def isNG (w : Cond) : Bool := match w with
  | .castable .. => true
  | .declares _ => true
  | .fieldLinkNest .. => true
  | .methodLinkNest .. => true
  | _ => false
def NGL : List Cond := tables_1.filter isNG
def NCL : List (String × String) := [("java/lang/IllegalStateException", "java/lang/IllegalArgumentException"), ("java/lang/IllegalArgumentException", "java/lang/IndexOutOfBoundsException"), ("java/lang/ArithmeticException", "java/lang/IndexOutOfBoundsException"), ("java/lang/IllegalStateException", "java/lang/IndexOutOfBoundsException"), ("java/util/NoSuchElementException", "java/lang/UnsupportedOperationException"), ("java/lang/IndexOutOfBoundsException", "java/util/NoSuchElementException")]
/-- the static row of weights, as it is cloned -/
def WT (β : Nat) (ad : Nat → Nat) (U : State) (H : Heap) : Prop := ∃ cell : Cell, H[ad 1001]? = some cell ∧ cell.slots.size = 8 ∧ U.vm.findClass "[I" = some cell.cls ∧ ¬ β ≤ ad 1001
/-- what stands still in the whole run: the classes, the static arrays and the script, the texts -/
def SW (X : XS) (β : Nat) (D : va_G) (dA : Nat → ClassId) (ad sa : Nat → Nat) (U : State) (H : Heap) : Prop :=
  va_K D kcl (tyl dA) U ∧
  (∀ k, k < 4 → va_T (roT X k).1 (ad (1000 + k)) (roT X k).2.1 (fun j => .int ((roT X k).2.2 j)) (fun q : Nat => β ≤ q) U H) ∧
  (∀ (k : Nat) (q : String × String × String), saN[k]? = some q → va_Z q.1 q.2.1 q.2.2 (.ref (ad (1000 + k))) (fun q : Nat => β ≤ q) U H) ∧
  (∀ (k : Nat) (q : String × Nat × String), stN[k]? = some q → vk_R q.1 q.2.1 q.2.2 (sa k) U) ∧
  vx_Zq Bundle.tN "UNASSIGNED_STACK" Bundle.steD (fun q : Nat => β ≤ q) U H ∧ vx_Zq Bundle.tN "SUPPRESSED_SENTINEL" Bundle.listD (fun q : Nat => β ≤ q) U H ∧
  (∀ w ∈ NGL, va_Nw w U) ∧ (∀ q ∈ NCL, va_Nc q.1 q.2 U) ∧ WT β ad U H
theorem ng_warm {w : Cond} {s U : State} (hw : w ∈ NGL) (hW : s.WarmedH U.vm) (h : va_Nw w s) : va_Nw w U := by
  have hg := (List.mem_filter.mp hw).2
  cases w <;> first
    | exact va_Nw.warmC hW h
    | exact va_Nw.warmD hW h
    | exact va_Nw.warmF hW h
    | exact va_Nw.warmM hW h
    | (simp [isNG] at hg)
theorem SW.warm {X : XS} {β : Nat} {D : va_G} {dA : Nat → ClassId} {ad sa : Nat → Nat} {u U : State} {H H1 : Heap} (h : SW X β D dA ad sa u H) (hW : u.WarmedH U.vm) (hk : ∀ a : Nat, a < H.size → ¬ (β ≤ a) → H1[a]? = H[a]?) : SW X β D dA ad sa U H1 := by
  obtain ⟨h1, h2, h3, h4, h5, h6, h7, h8, cell, w1, w2, w3, w4⟩ := h
  exact ⟨va_K.moved hW.alike h1, fun k hlt => va_T.moved hW.alike ((h2 k hlt).kept hk), fun k q hq => va_Z.moved hW.alike ((h3 k q hq).kept hk), fun k q hq => (h4 k q hq).warm hW,
    vx_Zq.moved hW.alike (h5.kept hk), vx_Zq.moved hW.alike (h6.kept hk), fun w hw => ng_warm hw hW (h7 w hw), fun q hq => va_Nc.moved hW.alike (h8 q hq), cell, (hk _ (Array.getElem?_eq_some_iff.mp w1).1 w4).trans w1, w2, by rw [hW.alike.findClass]; exact w3, w4⟩
theorem SW.ad {X : XS} {β : Nat} {D : va_G} {dA : Nat → ClassId} {ad ad' sa : Nat → Nat} {u : State} {H : Heap} (h : SW X β D dA ad sa u H) (e : ∀ k, 1000 ≤ k → ad' k = ad k) : SW X β D dA ad' sa u H := by
  obtain ⟨h1, h2, h3, h4, h5, h6, h7, h8, h9⟩ := h
  exact ⟨h1, fun k hlt => by rw [e (1000 + k) (by omega)]; exact h2 k hlt, fun k q hq => by rw [e (1000 + k) (by omega)]; exact h3 k q hq, h4, h5, h6, h7, h8, by unfold WT; rw [e 1001 (by omega)]; exact h9⟩
/-- how the handles' addresses may have changed since the method's start -/
def adOk (mi n0 : Nat) (ad0 ad : Nat → Nat) : Prop := (mA mi = 0 → ad = ad0) ∧ ∀ k, (k < n0 ∨ 1000 ≤ k) → ad k = ad0 k
theorem adOk.rf (mi n0 : Nat) (ad : Nat → Nat) : adOk mi n0 ad ad := ⟨fun _ => rfl, fun _ _ => rfl⟩
/-- an int that the method's own type leaves as it is -/
def nr (mi : Nat) (x : Int32) : Prop := ∃ ty, mR mi = some ty ∧ narrow ty (.int x) = .int x
def retI (mi : Nat) (ins : Instr) (v : Option Value) : Prop := match ins with
  | .return_ => v = none ∧ mR mi = none
  | .ireturn => ∃ x, v = some (.int x) ∧ nr mi x
  | .lreturn => ∃ x, v = some (.long x) ∧ mR mi = some .long
  | .freturn => ∃ x, v = some (.float x) ∧ mR mi = some .float
  | .dreturn => ∃ x, v = some (.double x) ∧ mR mi = some .double
  | .areturn => ∃ x, v = some (.ref x) ∧ ∃ rt, mR mi = some rt ∧ ((∃ n, rt = .object n) ∨ ∃ t, rt = .array t)
  | _ => False
/-- the parts of a throw: new; dup; ldc; invokespecial; athrow -/
def thI (mi pc en si : Nat) : Prop := ∃ (ik is : Nat) (tx : String), en < 6 ∧ stN[si]? = some ((mY mi).cls, is, tx) ∧ (mY mi).cls = "Plotwise" ∧ mH mi = [] ∧ 6 ≤ mV mi ∧ (ik, 5, 100 + en, 0) ∈ lks (mD mi) ∧ dN (mD mi) = (mY mi).cls ∧
  decode (mB mi) pc = .ok (.new ik, 3) ∧ decode (mB mi) (pc + 3) = .ok (.dup, 1) ∧
  ((decode (mB mi) (pc + 4) = .ok (.ldc is, 2) ∧ decode (mB mi) (pc + 6) = .ok (.invokespecial (exI.getD en 0), 3) ∧ decode (mB mi) (pc + 9) = .ok (.athrow, 1)) ∨
   (decode (mB mi) (pc + 4) = .ok (.ldc_w is, 3) ∧ decode (mB mi) (pc + 7) = .ok (.invokespecial (exI.getD en 0), 3) ∧ decode (mB mi) (pc + 10) = .ok (.athrow, 1)))
/-- the heap as the real one holds it -/
def HR (D : va_G) (dA : Nat → ClassId) (β : Nat) (ad : Nat → Nat) (h : AH) (H0 H : Heap) (locs : List Loc) : Prop :=
  va_P D kcl (cW dA ad h) H ∧ va_D (fun q : Nat => β ≤ q) (cW dA ad h) ∧ va_S (fun q : Nat => β ≤ q) H0 H locs
/-- the ends that a method's body owes: it returns; a callee's throw goes through; it throws -/
def Fin1 (mi : Nat) (Q : AO → AH → Prop) (n0 : Nat) (p : Program) (l : Launch) (e : Env) (R : Room) (s : State) (m : MethodId) (args : Array Value) (below : List Frame) (meth : Method) (c : Code) (β : Nat) (D : va_G) (dA : Nat → ClassId) (ad0 : Nat → Nat) (Qf : State → Prop) : Prop :=
  ∀ (v : Option Value) (h : AH) (ad : Nat → Nat) (H : Heap) (locs : List Loc) (cells slots pc : Nat) (ls : Array Slot) (ins : Instr), Q (.inl v) h → retI mi ins v → decode (mB mi) pc = .ok (ins, 1) → adOk mi n0 ad0 ad → n0 ≤ h.length → HR D dA β ad h s.heap H locs → cells ≤ R.cells → slots ≤ R.slots →
    W p l e R s m args below meth c H locs cells slots Qf (F0 m pc ls (v.map (tv ad)).toList)
def Fin2 (mi : Nat) (Q : AO → AH → Prop) (n0 : Nat) (p : Program) (l : Launch) (e : Env) (R : Room) (s : State) (m : MethodId) (args : Array Value) (below : List Frame) (meth : Method) (c : Code) (β : Nat) (D : va_G) (dA : Nat → ClassId) (ad0 : Nat → Nat) (Qf : State → Prop) : Prop :=
  ∀ (en : Nat) (h : AH) (ad : Nat → Nat) (H : Heap) (locs : List Loc) (cells slots pc : Nat) (ls : Array Slot) (rest : List Value) (q : Addr) (ce : Cell), Q (.inr en) h → mH mi = [] → adOk mi n0 ad0 ad → n0 ≤ h.length → HR D dA β ad h s.heap H locs → cells ≤ R.cells → slots ≤ R.slots → H[q]? = some ce → ce.vm = .none → s.vm.findClass (exN.getD en "") = some ce.cls →
    vx_W p l e R s m args below meth c H locs cells slots Qf (F0 m pc ls rest) q
def Fin3 (mi : Nat) (Q : AO → AH → Prop) (n0 : Nat) (p : Program) (l : Launch) (e : Env) (R : Room) (s : State) (m : MethodId) (args : Array Value) (below : List Frame) (meth : Method) (c : Code) (β : Nat) (D : va_G) (dA : Nat → ClassId) (ad0 : Nat → Nat) (Qf : State → Prop) : Prop :=
  ∀ (en si : Nat) (h : AH) (ad : Nat → Nat) (H : Heap) (locs : List Loc) (cells slots pc : Nat) (ls : Array Slot) (rest : List Value), Q (.inr en) h → thI mi pc en si → adOk mi n0 ad0 ad → n0 ≤ h.length → HR D dA β ad h s.heap H locs → ls.size = mL mi → (rest.map fun v => v.category).sum ≤ 8 → cells + 1 ≤ R.cells → slots + 6 ≤ R.slots →
    W p l e R s m args below meth c H locs cells slots Qf (F0 m pc ls rest)
/-- all that doesn't change while a method's body runs -/
def Cx (X : XS) (mi : Nat) (Q : AO → AH → Prop) (n0 : Nat) (p : Program) (l : Launch) (e : Env) (R : Room) (s : State) (m : MethodId) (args : Array Value) (below : List Frame) (meth : Method) (c : Code) (β : Nat) (D : va_G) (dA : Nat → ClassId) (ad0 sa : Nat → Nat) (Qf : State → Prop) : Prop :=
  p.tables.exec = Jvm.exec ∧ c.code = mB mi ∧ c.maxLocals = mL mi ∧ s.vm.findClass (mY mi).cls = some m.cls ∧ (∀ w ∈ XU, w.before args s = true) ∧ l.stackTraces = false ∧ SW X β D dA ad0 sa s s.heap ∧ β ≤ s.heap.size ∧
  ((mY mi).name = "<init>" → meth.name = "<init>") ∧ (mV mi ≤ R.frames ∧ 64 * mV mi ≤ R.locals) ∧ c.exceptionTable.toList = tableOf (mH mi) ∧
  Fin1 mi Q n0 p l e R s m args below meth c β D dA ad0 Qf ∧ Fin2 mi Q n0 p l e R s m args below meth c β D dA ad0 Qf ∧ Fin3 mi Q n0 p l e R s m args below meth c β D dA ad0 Qf ∧ n0 = X.2
def tl (ad : Nat → Nat) (lv : List (Nat × Value)) : List (Nat × Value) := lv.map (fun q => (q.1, tv ad q.2))
/-- from pc of method mi, with locals lv, stack st, heap h, room for bc cells and bs slots: an end that Q allows -/
def AW (X : XS) (mi pc : Nat) (lv : List (Nat × Value)) (st : List Value) (h : AH) (bc bs : Nat) (Q : AO → AH → Prop) : Prop :=
  ∀ (n0 : Nat) (p : Program) (l : Launch) (e : Env) (R : Room) (s : State) (m : MethodId) (args : Array Value) (below : List Frame) (meth : Method) (c : Code) (β : Nat) (D : va_G) (dA : Nat → ClassId) (ad0 sa : Nat → Nat) (Qf : State → Prop), Cx X mi Q n0 p l e R s m args below meth c β D dA ad0 sa Qf →
  ∀ (ad : Nat → Nat) (H : Heap) (locs : List Loc) (cells slots : Nat) (ls : Array Slot), adOk mi n0 ad0 ad → n0 ≤ h.length → HR D dA β ad h s.heap H locs → lv_has ls (mL mi) (tl ad lv) → cells + bc ≤ R.cells → slots + bs ≤ R.slots →
    W p l e R s m args below meth c H locs cells slots Qf (F0 m pc ls (st.map (tv ad)))
/-- a method's end, as its caller sees it -/
def CQ (mi : Nat) (n0 : Nat) (β : Nat) (D : va_G) (dA : Nat → ClassId) (ad0 : Nat → Nat) (Q : AO → AH → Prop) : Array Value → State → Outcome → State → Prop := fun _ st o t =>
  (∃ (v : Option Value) (h : AH) (ad : Nat → Nat), o = .returned (v.map (tv ad)) ∧ Q (.inl v) h ∧ adOk mi n0 ad0 ad ∧ n0 ≤ h.length ∧ va_P D kcl (cW dA ad h) t.heap ∧ va_D (fun q : Nat => β ≤ q) (cW dA ad h)) ∧ va_F (fun q : Nat => β ≤ q) st t
def CX (mi : Nat) (n0 : Nat) (β : Nat) (D : va_G) (dA : Nat → ClassId) (ad0 : Nat → Nat) (Q : AO → AH → Prop) : String → State → State → Prop := fun E st t =>
  (∃ (en : Nat) (h : AH) (ad : Nat → Nat), E = exN.getD en "" ∧ Q (.inr en) h ∧ adOk mi n0 ad0 ad ∧ n0 ≤ h.length ∧ va_P D kcl (cW dA ad h) t.heap ∧ va_D (fun q : Nat => β ≤ q) (cW dA ad h)) ∧ va_F (fun q : Nat => β ≤ q) st t
def CP (X : XS) (β : Nat) (D : va_G) (dA : Nat → ClassId) (ad0 sa : Nat → Nat) (h : AH) (U : State) : Prop := SW X β D dA ad0 sa U U.heap ∧ β ≤ U.heap.size ∧ va_P D kcl (cW dA ad0 h) U.heap ∧ va_D (fun q : Nat => β ≤ q) (cW dA ad0 h)
def mRm (mi : Nat) : Room := { frames := mV mi, cells := mC mi, slots := mS mi, locals := 64 * mV mi }
/-- the method mi, called with the values as in the heap h, comes to an end that Q allows -/
def Call (X : XS) (mi : Nat) (as : List Value) (h : AH) (Q : AO → AH → Prop) : Prop :=
  ∀ (l : Launch) (β : Nat) (D : va_G) (dA : Nat → ClassId) (ad0 sa : Nat → Nat), l.stackTraces = false →
    vx_Met l (mY mi) (mW mi :: XU) (mRm mi) (va_Pc (as.map (tv ad0)) (CP X β D dA ad0 sa h)) (CQ mi h.length β D dA ad0 Q) (CX mi h.length β D dA ad0 Q) (mC mi) (mS mi) (fun q : Nat => β ≤ q)
theorem AW.wide {X : XS} {mi pc : Nat} {lv : List (Nat × Value)} {st : List Value} {h : AH} {bc bs bc' bs' : Nat} {Q : AO → AH → Prop} (h1 : bc' ≤ bc) (h2 : bs' ≤ bs) (k : AW X mi pc lv st h bc' bs' Q) : AW X mi pc lv st h bc bs Q :=
  fun n0 p l e R s m args below meth c β D dA ad0 sa Qf C ad H locs cells slots ls ha hn hR hl hc hs => k n0 p l e R s m args below meth c β D dA ad0 sa Qf C ad H locs cells slots ls ha hn hR hl (by omega) (by omega)
/-- fewer known locals -/
theorem AW.less {X : XS} {mi pc : Nat} {lv lv' : List (Nat × Value)} {st : List Value} {h : AH} {bc bs : Nat} {Q : AO → AH → Prop} (hs' : ∀ q ∈ lv', q ∈ lv) (k : AW X mi pc lv' st h bc bs Q) : AW X mi pc lv st h bc bs Q :=
  fun n0 p l e R s m args below meth c β D dA ad0 sa Qf C ad H locs cells slots ls ha hn hR hl hc hs => k n0 p l e R s m args below meth c β D dA ad0 sa Qf C ad H locs cells slots ls ha hn hR ⟨hl.1, hl.2.1, fun q hq => by
    obtain ⟨z, hz, rfl⟩ := List.mem_map.mp hq
    exact hl.2.2 _ (List.mem_map.mpr ⟨z, hs' z hz, rfl⟩)⟩ hc hs

theorem cW_app {dA : Nat → ClassId} {ad : Nat → Nat} {h g : AH} {k : Nat} {q : Nat × va_E} (e : (cW dA ad h)[k]? = some q) : (cW dA ad (h ++ g))[k]? = some q := by
  obtain ⟨c, h1, rfl⟩ := cW_inv e
  exact cW_get (by rw [List.getElem?_append_left (List.getElem?_eq_some_iff.mp h1).1]; exact h1)
/-- cells that nobody asks for any more -/
theorem AW.drop {X : XS} {mi pc : Nat} {lv : List (Nat × Value)} {st : List Value} {h g : AH} {bc bs : Nat} {Q : AO → AH → Prop} (hn0 : Nat.ble X.2 h.length = true) (k : AW X mi pc lv st h bc bs Q) : AW X mi pc lv st (h ++ g) bc bs Q :=
  fun n0 p l e R s m args below meth c β D dA ad0 sa Qf C ad H locs cells slots ls ha _ hR hl hc hs =>
    k n0 p l e R s m args below meth c β D dA ad0 sa Qf C ad H locs cells slots ls ha (by rw [C.2.2.2.2.2.2.2.2.2.2.2.2.2.2]; exact Nat.le_of_ble_eq_true hn0)
      ⟨fun k q e => hR.1 k q (cW_app e), ⟨fun i j p q hi hj => hR.2.1.1 i j p q (cW_app hi) (cW_app hj), fun k q e => hR.2.1.2 k q (cW_app e)⟩, hR.2.2⟩ hl hc hs
