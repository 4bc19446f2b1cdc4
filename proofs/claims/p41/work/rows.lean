section
-- ===== PART A: goes FIRST, ahead of the names: the tables' words, and 'selects' of the private methods out of them =====
/-- a private method of a class that the tables say can be made, by its rows of tables_1 -/
def lw_okq (q : MethodName × Nat) : Prop := (q.1.cls ≠ "java/lang/invoke/MethodHandle" ∧ q.1.cls ≠ "java/lang/invoke/VarHandle") ∧ Cond.instantiable q.1.cls q.2 ∈ tables_1 ∧ Cond.privateMethod q.1 ∈ tables_1 ∧ Cond.instanceMethod q.1 ∈ tables_1
theorem lw_p0 : lw_okq (⟨"Plotwise$Search", "searchFrom", "(I)V"⟩, 4) := ⟨⟨by decide +kernel, by decide +kernel⟩, List.mem_of_getElem? (i := 108) (by decide +kernel), List.mem_of_getElem? (i := 234) (by decide +kernel), List.mem_of_getElem? (i := 235) (by decide +kernel)⟩
theorem lw_p1 : lw_okq (⟨"Plotwise$Search", "isHopeless", "(I)Z"⟩, 4) := ⟨⟨by decide +kernel, by decide +kernel⟩, List.mem_of_getElem? (i := 108) (by decide +kernel), List.mem_of_getElem? (i := 241) (by decide +kernel), List.mem_of_getElem? (i := 242) (by decide +kernel)⟩
theorem lw_p2 : lw_okq (⟨"Plotwise$HardRules", "hasForbiddenColumn", "(I)Z"⟩, 4) := ⟨⟨by decide +kernel, by decide +kernel⟩, List.mem_of_getElem? (i := 67) (by decide +kernel), List.mem_of_getElem? (i := 267) (by decide +kernel), List.mem_of_getElem? (i := 268) (by decide +kernel)⟩
theorem lw_p3 : lw_okq (⟨"Plotwise$HardRules", "isAsWished", "(I)Z"⟩, 4) := ⟨⟨by decide +kernel, by decide +kernel⟩, List.mem_of_getElem? (i := 67) (by decide +kernel), List.mem_of_getElem? (i := 275) (by decide +kernel), List.mem_of_getElem? (i := 276) (by decide +kernel)⟩
theorem lw_p4 : lw_okq (⟨"Plotwise$Search", "offerSizes", "(I)V"⟩, 4) := ⟨⟨by decide +kernel, by decide +kernel⟩, List.mem_of_getElem? (i := 108) (by decide +kernel), List.mem_of_getElem? (i := 341) (by decide +kernel), List.mem_of_getElem? (i := 342) (by decide +kernel)⟩
theorem lw_p5 : lw_okq (⟨"Plotwise$Trial", "tryAll", "(J)V"⟩, 6) := ⟨⟨by decide +kernel, by decide +kernel⟩, List.mem_of_getElem? (i := 140) (by decide +kernel), List.mem_of_getElem? (i := 358) (by decide +kernel), List.mem_of_getElem? (i := 359) (by decide +kernel)⟩
theorem lw_p6 : lw_okq (⟨"Plotwise$Trial", "tryPlacement", "(IJ)V"⟩, 6) := ⟨⟨by decide +kernel, by decide +kernel⟩, List.mem_of_getElem? (i := 140) (by decide +kernel), List.mem_of_getElem? (i := 364) (by decide +kernel), List.mem_of_getElem? (i := 365) (by decide +kernel)⟩
theorem lw_p7 : lw_okq (⟨"Plotwise", "isRankingAllowed", "(LPlotwise$Best;)Z"⟩, 8) := ⟨⟨by decide +kernel, by decide +kernel⟩, List.mem_of_getElem? (i := 26) (by decide +kernel), List.mem_of_getElem? (i := 374) (by decide +kernel), List.mem_of_getElem? (i := 375) (by decide +kernel)⟩
theorem lw_p8 : lw_okq (⟨"Plotwise", "isRankingInOrder", "(LPlotwise$Best;)Z"⟩, 8) := ⟨⟨by decide +kernel, by decide +kernel⟩, List.mem_of_getElem? (i := 26) (by decide +kernel), List.mem_of_getElem? (i := 399) (by decide +kernel), List.mem_of_getElem? (i := 400) (by decide +kernel)⟩
theorem lw_p9 : lw_okq (⟨"Plotwise", "isFirstConfirmed", "(LPlotwise$Best;LPlotwise$Best;)Z"⟩, 8) := ⟨⟨by decide +kernel, by decide +kernel⟩, List.mem_of_getElem? (i := 26) (by decide +kernel), List.mem_of_getElem? (i := 409) (by decide +kernel), List.mem_of_getElem? (i := 410) (by decide +kernel)⟩
theorem lw_p10 : lw_okq (⟨"java/lang/Throwable", "fillInStackTrace", "(I)Ljava/lang/Throwable;"⟩, 6) := ⟨⟨by decide +kernel, by decide +kernel⟩, List.mem_of_getElem? (i := 472) (by decide +kernel), List.mem_of_getElem? (i := 470) (by decide +kernel), List.mem_of_getElem? (i := 471) (by decide +kernel)⟩
theorem lw_p11 : lw_okq (⟨"Plotwise$Table", "store", "(III)V"⟩, 8) := ⟨⟨by decide +kernel, by decide +kernel⟩, List.mem_of_getElem? (i := 34) (by decide +kernel), List.mem_of_getElem? (i := 523) (by decide +kernel), List.mem_of_getElem? (i := 524) (by decide +kernel)⟩
theorem lw_p12 : lw_okq (⟨"Plotwise$Table", "studyAll", "()V"⟩, 8) := ⟨⟨by decide +kernel, by decide +kernel⟩, List.mem_of_getElem? (i := 34) (by decide +kernel), List.mem_of_getElem? (i := 531) (by decide +kernel), List.mem_of_getElem? (i := 532) (by decide +kernel)⟩
theorem lw_p13 : lw_okq (⟨"Plotwise$Table", "study", "(I)V"⟩, 8) := ⟨⟨by decide +kernel, by decide +kernel⟩, List.mem_of_getElem? (i := 34) (by decide +kernel), List.mem_of_getElem? (i := 535) (by decide +kernel), List.mem_of_getElem? (i := 536) (by decide +kernel)⟩
theorem lw_p14 : lw_okq (⟨"Plotwise$Table", "isNewAt", "(II)Z"⟩, 8) := ⟨⟨by decide +kernel, by decide +kernel⟩, List.mem_of_getElem? (i := 34) (by decide +kernel), List.mem_of_getElem? (i := 543) (by decide +kernel), List.mem_of_getElem? (i := 544) (by decide +kernel)⟩
def lw_privs_1 : List (MethodName × Nat) := [(⟨"Plotwise$Search", "searchFrom", "(I)V"⟩, 4), (⟨"Plotwise$Search", "isHopeless", "(I)Z"⟩, 4), (⟨"Plotwise$HardRules", "hasForbiddenColumn", "(I)Z"⟩, 4), (⟨"Plotwise$HardRules", "isAsWished", "(I)Z"⟩, 4), (⟨"Plotwise$Search", "offerSizes", "(I)V"⟩, 4), (⟨"Plotwise$Trial", "tryAll", "(J)V"⟩, 6), (⟨"Plotwise$Trial", "tryPlacement", "(IJ)V"⟩, 6), (⟨"Plotwise", "isRankingAllowed", "(LPlotwise$Best;)Z"⟩, 8), (⟨"Plotwise", "isRankingInOrder", "(LPlotwise$Best;)Z"⟩, 8), (⟨"Plotwise", "isFirstConfirmed", "(LPlotwise$Best;LPlotwise$Best;)Z"⟩, 8), (⟨"java/lang/Throwable", "fillInStackTrace", "(I)Ljava/lang/Throwable;"⟩, 6), (⟨"Plotwise$Table", "store", "(III)V"⟩, 8), (⟨"Plotwise$Table", "studyAll", "()V"⟩, 8), (⟨"Plotwise$Table", "study", "(I)V"⟩, 8), (⟨"Plotwise$Table", "isNewAt", "(II)Z"⟩, 8)]
theorem lw_r1 : ∀ q ∈ lw_privs_1, lw_okq q := List.forall_mem_cons.mpr ⟨lw_p0, List.forall_mem_cons.mpr ⟨lw_p1, List.forall_mem_cons.mpr ⟨lw_p2, List.forall_mem_cons.mpr ⟨lw_p3, List.forall_mem_cons.mpr ⟨lw_p4, List.forall_mem_cons.mpr ⟨lw_p5, List.forall_mem_cons.mpr ⟨lw_p6, List.forall_mem_cons.mpr ⟨lw_p7, List.forall_mem_cons.mpr ⟨lw_p8, List.forall_mem_cons.mpr ⟨lw_p9, List.forall_mem_cons.mpr ⟨lw_p10, List.forall_mem_cons.mpr ⟨lw_p11, List.forall_mem_cons.mpr ⟨lw_p12, List.forall_mem_cons.mpr ⟨lw_p13, List.forall_mem_cons.mpr ⟨lw_p14, fun _ h => absurd h List.not_mem_nil⟩⟩⟩⟩⟩⟩⟩⟩⟩⟩⟩⟩⟩⟩⟩
def lw_privs : List (MethodName × Nat) := lw_privs_1
def lw_tbl : List Cond := k2_sels lw_privs ++ tables_1
theorem lw_privs_ok : ∀ q ∈ lw_privs, lw_okq q := lw_r1
/-- the streams that the claim lets the run draw from -/
abbrev lw_cs : List Choice := [Jvm.Choice.named "NaN.bits"]
theorem lw_bits : nanBits ∈ lw_cs := by first | decide | exact List.mem_cons_self | simp [lw_cs, nanBits]

/-! ===== BEGIN words of one list among another's, by their places ===== -/
theorem goodIn_r {big : List Cond} (ws : List Cond) (ps : List Nat) (hp : ws = ps.filterMap (fun i => big[i]?)) (h : ws.all goodWord = true) : GoodIn big ws := by
  intro w hw
  have h1 := List.all_eq_true.mp h w hw
  rw [hp] at hw
  obtain ⟨i, -, hi⟩ := List.mem_filterMap.mp hw
  have hm : w ∈ big := by first | exact List.mem_of_getElem? hi | exact List.getElem?_mem hi
  exact ⟨hm, good_of_word h1⟩
theorem goodIn_app {big a b : List Cond} (ha : GoodIn big a) (hb : GoodIn big b) : GoodIn big (a ++ b) := fun w h => (List.mem_append.mp h).elim (ha w) (hb w)
theorem goodIn_ca {big a b : List Cond} {c : Cond} (ha : GoodIn big (c :: a)) (hb : GoodIn big b) : GoodIn big (c :: (a ++ b)) := fun w h => (List.mem_cons.mp h).elim (fun e => ha w (List.mem_cons.mpr (Or.inl e))) (fun h => (List.mem_append.mp h).elim (fun h => ha w (List.mem_cons.mpr (Or.inr h))) (hb w))
theorem goodIn_sub {big ws : List Cond} (hm : ∀ w ∈ ws, w ∈ big) (h : ws.all goodWord = true) : GoodIn big ws := fun w hw => ⟨hm w hw, good_of_word (List.all_eq_true.mp h w hw)⟩
/-! ===== END ===== -/
/-! ===== BEGIN exceptions that leave a method, and their catching by the caller (launches without stack traces) ===== -/
section VXA
/-! The laws vx_back, vx_callV, vx_callS, vx_callSW, vx_throw0, vx_throwS follow proofs of the library, with one case more: JvmDerived/Free/Laws.lean (Back.of_free), Shelf42/LK1.lean (callV, callS), Shelf/KitTraced.lean (throwNew0V, throwNewS). -/
/-- where a method has thrown q: the class by its name, the cell, what was written, the world -/
def vx_T (XC : String → State → State → Prop) (st : State) (q : Addr) (t : State) (mc ms : Nat) (free : Addr → Prop) : Prop :=
  ∃ (E : String) (ce : Cell) (L : List Loc), XC E st t ∧ t.heap[q]? = some ce ∧ ce.vm = .none ∧ st.vm.findClass E = some ce.cls ∧ st.WarmedH t.vm ∧ st.sameButNew ({ t with vm := st.vm } : State) L mc ms ∧ ∀ z ∈ L, free z.base
def vx_Q (Qc : Array Value → State → Outcome → State → Prop) (XC : String → State → State → Prop) (mc ms : Nat) (free : Addr → Prop) : Array Value → State → Outcome → State → Prop := fun a st o t =>
  (Qc a st o t ∧ ∃ L, FrameEnd st o t L mc ms ∧ ∀ q ∈ L, free q.base) ∨ ∃ q, o = .threw q ∧ vx_T XC st q t mc ms free
/-- a callee that returns or throws -/
def vx_Met (l : Launch) (y : MethodName) (ws : List Cond) (rm : Room) (Pc : Array Value → State → Prop) (Qc : Array Value → State → Outcome → State → Prop) (XC : String → State → State → Prop) (mc ms : Nat) (free : Addr → Prop) : Prop :=
  MetFree l y (headSpec ws rm) Pc (fun _ _ _ _ _ => True) (vx_Q Qc XC mc ms free)
def vx_Post (XC : String → State → State → Prop) (mc ms : Nat) (free : Addr → Prop) : Pt → Array Value → Addr → Pt → Prop := fun A a q B =>
  ∃ (g : JFrame) (mk : MethodId) (t : State) (L : List Loc) (E : String) (ce : Cell), B.U.heap = t.heap ∧ B.U.vm = t.vm ∧ XC E (A.U.calling g mk a) t ∧ t.heap[q]? = some ce ∧ ce.vm = .none ∧ A.U.vm.findClass E = some ce.cls ∧ B.locs = A.locs ++ L ∧ (∀ z ∈ L, free z.base) ∧ B.cells = A.cells + mc ∧ B.slots = A.slots + ms
def vx_Back (l : Launch) (R : Room) (p : Program) (e : Env) (below : List Frame) (s : State) (sargs : Array Value) (y : MethodName) (len W9 : Nat)
    (Pre : Pt → Array Value → Prop) (Post : Pt → Array Value → Option Value → Pt → Prop) (PostX : Pt → Array Value → Addr → Pt → Prop) : Prop :=
  ∀ (m : MethodId) (meth : Method) (c : Code) (A : Pt) (g : JFrame) (ig : Instr) (mk : MethodId) (a : Array Value),
    Stand p l e R s m sargs below meth c A.U A.locs A.cells A.slots → g.method = m → g.locals.size = c.maxLocals → decode c.code g.pc = .ok (ig, len) →
    2 * g.monitorRoom + (g.stack.map fun v => v.category).sum ≤ W9 → A.U.methodNamed? y = some mk → Pre A a →
    (∃ (v : Option Value) (B : Pt), Stand p l e R s m sargs below meth c B.U B.locs B.cells B.slots ∧ Post A a v B ∧
      Steps p.tables e below (doInvoke e (A.U.setTop g) [] mk a).1 (B.U.setTop { g with pc := g.pc + len, stack := v.toList ++ g.stack })) ∨
    (∃ (q : Addr) (B : Pt), Stand p l e R s m sargs below meth c B.U B.locs B.cells B.slots ∧ PostX A a q B ∧
      Steps p.tables e below (doInvoke e (A.U.setTop g) [] mk a).1 ((B.U.setTop g).pushFrame (.throwing q)))
section Payer
variable {l : Launch} {R : Room} {p : Program} {e : Env} {below : List Frame} {s : State} {sargs : Array Value} {y : MethodName} {len W9 : Nat}
theorem vx_back {ws : List Cond} {rm : Room} {Pc : Array Value → State → Prop} {Qc : Array Value → State → Outcome → State → Prop} {XC : String → State → State → Prop} {mc ms : Nat} {free : Addr → Prop} {bytes : ByteArray} {maxL : Nat} {ret : Option FieldType}
    (hM : vx_Met l y ws rm Pc Qc XC mc ms free) (hblind : FrameBlind Pc) (hrc : rm.cells = mc) (hrs : rm.slots = ms)
    (hframes : rm.frames + 1 ≤ R.frames) (hlocals : W9 + (maxL + 11) + rm.locals ≤ R.locals)
    (hws : ∀ w ∈ ws, ∀ a' U, s.WarmedH U.vm → w.before a' U = true) (hcode : Cond.code y bytes maxL ret ∈ ws) (hinit : ∀ a' U, s.WarmedH U.vm → (Cond.initialized y.cls).before a' U = true) :
    vx_Back l R p e below s sargs y len W9 (PreOf R mc ms Pc) (PostOf Qc mc ms free) (vx_Post XC mc ms free) := by
  intro m meth c A g ig mk a X hg hsize hdg hW hn hp
  have h1 : (headSpec ws rm).pre.before a A.U = true := atoms_intro fun w hw => hws w hw _ _ X.warmed
  have h2 : (Cond.code y bytes maxL ret).before a A.U = true := hws _ hcode _ _ X.warmed
  have h3 : (Cond.initialized y.cls).before a A.U = true := hinit _ _ X.warmed
  have h4 : A.cells + (headSpec ws rm).room.cells ≤ R.cells := by rw [show (headSpec ws rm).room.cells = mc from hrc]; exact hp.1
  have h5 : A.slots + (headSpec ws rm).room.slots ≤ R.slots := by rw [show (headSpec ws rm).room.slots = ms from hrs]; exact hp.2.1
  have hPc : Pc a (A.U.calling g mk a) := hblind _ _ _ _ hp.2.2
  obtain ⟨U, Ls, c0, s0⟩ := A
  dsimp only [Pt.U, Pt.locs, Pt.cells, Pt.slots] at h1 h2 h3 h4 h5 X hn hPc ⊢
  obtain ⟨methY, cY, hmY, hcY, -, hlY, -, -, -, -⟩ := Cond.code_spec hn h2
  obtain ⟨kY, hkY, -⟩ := className_of_methodNamed hn
  have hinitY : kY.init = .initialized := Cond.initialized_spec (findClass_of_methodNamed hn) hkY h3
  have h : At U g.method c below := by rw [hg]; exact X.here
  have hlocals9 : W9 + (maxL + 11) + (headSpec ws rm).room.locals ≤ R.locals := hlocals
  have happ : (headSpec ws rm).appliesLoose y e.platform (U.calling g mk a) = true :=
    Spec.appliesLoose_calling (g := g) h hdg hn hkY hinitY
      (X.room_calling (g := g) (R' := (headSpec ws rm).room) hsize hmY hcY hframes (by rw [hlY]; omega) h4 h5) h1
  obtain ⟨mid, hmid⟩ := h.above
  have hfr : (U.setTop g).frames = (.java g :: mid) ++ below := by rw [State.frames_setTop' g h.top, hmid]; rfl
  obtain ⟨o, s₂, hsteps, -, hend, hq⟩ := Steps.callFree hM p X.admits X.cas X.clock (acts := []) hfr happ hPc trivial
  have hq' : vx_Q Qc XC mc ms free a (U.calling g mk a) o s₂ := hq
  rw [State.frames_setTop' g h.top] at hend
  obtain ⟨g₀, hg0⟩ := Option.isSome_iff_exists.mp h.top
  obtain ⟨r, hr⟩ := State.topJava?_eq_some.mp hg0
  have hr' : (({ U with heap := s₂.heap, slotsUsed := s₂.slotsUsed } : State).setVm s₂.vm).frames = .java g₀ :: r := hr
  rcases hq' with ⟨hqc, L, hfe, hL⟩ | ⟨q, rfl, E, ce, L, hx, hce, hcv, hcl, hW₂, hsm, hL⟩
  · obtain ⟨⟨v, rfl⟩, hW₂, e2, q2, q3, q4, q5, q6⟩ := id hfe
    have e3 : s₂ = ({ (U.calling g mk a).setFrames s₂.frames with heap := s₂.heap, slotsUsed := s₂.slotsUsed } : State).setVm s₂.vm := by
      have : s₂ = ({ s₂ with vm := (U.calling g mk a).vm } : State).setVm s₂.vm := rfl
      rw [e2] at this
      exact this
    obtain ⟨c₂, i₂, len₂, hc₂, hd₂, hf₂⟩ := hend
    have hW' : U.WarmedH s₂.vm := hW₂
    have hcc : c₂ = c := by
      have h1 : s₂.code? g.method = U.code? g.method := by
        rw [State.code?_eq, State.code?_eq, hW'.alike.method?]
      exact Option.some.inj (hc₂.symm.trans (h1.trans h.code))
    subst hcc
    have hlen : len₂ = len := by rw [hdg] at hd₂; cases hd₂; rfl
    subst hlen
    have hs₂ : s₂ = (({ U with heap := s₂.heap, slotsUsed := s₂.slotsUsed } : State).setVm s₂.vm).setTop { g with pc := g.pc + len₂, stack := v.toList ++ g.stack } := by
      refine e3.trans ?_
      rw [hf₂, State.calling_eq h.top, State.setFrames_setFrames, State.setTop_of_frames _ hr', hr]
      rfl
    have hsame : U.sameButNew ({ U with heap := s₂.heap, slotsUsed := s₂.slotsUsed } : State) L mc ms := by
      refine ⟨?_, q2, q3, q4, q5, q6⟩
      obtain ⟨t, ht, -⟩ := State.frames_cons hr
      show ({ U with heap := s₂.heap, slotsUsed := s₂.slotsUsed } : State) = { U.setFrames U.frames with heap := s₂.heap, slotsUsed := s₂.slotsUsed }
      rw [State.setFrames_self ht]
    subst hg
    refine Or.inl ⟨v, ⟨(({ U with heap := s₂.heap, slotsUsed := s₂.slotsUsed } : State).setVm s₂.vm), Ls ++ L, c0 + mc, s0 + ms⟩,
      ⟨X.admits, X.cas, X.clock, X.frames, X.room, X.hears, X.method, X.code, (X.here.setHeapUsed s₂.heap s₂.slotsUsed).setVm hW'.alike, X.tail, State.WarmedH.trans X.warmed hW', X.limits, X.bytes, X.same.trans (hsame.setVm s.vm)⟩,
      ⟨g, mk, s₂, L, rfl, rfl, hqc, rfl, hL, rfl, rfl⟩, ?_⟩
    show Steps p.tables e below _ ((({ U with heap := s₂.heap, slotsUsed := s₂.slotsUsed } : State).setVm s₂.vm).setTop { g with pc := g.pc + len₂, stack := v.toList ++ g.stack })
    rw [← hs₂]
    exact hsteps
  · obtain ⟨e2, q2, q3, q4, q5, q6⟩ := id hsm
    have e3 : s₂ = ({ (U.calling g mk a).setFrames s₂.frames with heap := s₂.heap, slotsUsed := s₂.slotsUsed } : State).setVm s₂.vm := by
      have : s₂ = ({ s₂ with vm := (U.calling g mk a).vm } : State).setVm s₂.vm := rfl
      rw [e2] at this
      exact this
    have hf₂ : s₂.frames = .throwing q :: .java g :: U.frames.tail := hend
    have hW' : U.WarmedH s₂.vm := hW₂
    have hs₂ : s₂ = ((({ U with heap := s₂.heap, slotsUsed := s₂.slotsUsed } : State).setVm s₂.vm).setTop g).pushFrame (.throwing q) := by
      refine e3.trans ?_
      rw [hf₂, State.calling_eq h.top, State.setFrames_setFrames, State.pushFrame, State.frames_setTop _ hr', State.setTop_of_frames _ hr', State.setFrames_setFrames, hr]
      rfl
    have hsame : U.sameButNew ({ U with heap := s₂.heap, slotsUsed := s₂.slotsUsed } : State) L mc ms := by
      refine ⟨?_, q2, q3, q4, q5, q6⟩
      obtain ⟨t, ht, -⟩ := State.frames_cons hr
      show ({ U with heap := s₂.heap, slotsUsed := s₂.slotsUsed } : State) = { U.setFrames U.frames with heap := s₂.heap, slotsUsed := s₂.slotsUsed }
      rw [State.setFrames_self ht]
    subst hg
    refine Or.inr ⟨q, ⟨(({ U with heap := s₂.heap, slotsUsed := s₂.slotsUsed } : State).setVm s₂.vm), Ls ++ L, c0 + mc, s0 + ms⟩,
      ⟨X.admits, X.cas, X.clock, X.frames, X.room, X.hears, X.method, X.code, (X.here.setHeapUsed s₂.heap s₂.slotsUsed).setVm hW'.alike, X.tail, State.WarmedH.trans X.warmed hW', X.limits, X.bytes, X.same.trans (hsame.setVm s.vm)⟩,
      ⟨g, mk, s₂, L, E, ce, rfl, rfl, hx, hce, hcv, hcl, rfl, hL, rfl, rfl⟩, ?_⟩
    show Steps p.tables e below _ (((({ U with heap := s₂.heap, slotsUsed := s₂.slotsUsed } : State).setVm s₂.vm).setTop g).pushFrame (.throwing q))
    rw [← hs₂]
    exact hsteps
end Payer
section Calls
variable {p : Program} {l : Launch} {e : Env} {R : Room} {s : State} {m : MethodId} {args : Array Value} {below : List Frame} {meth : Method} {c : Code} {T : State} {locs : List Loc} {cells slots : Nat}
theorem vx_callV (X : Stand p l e R s m args below meth c T locs cells slots) (hexec : p.tables.exec = Jvm.exec) {own C : String} {index : Nat} {y : MethodName} {bytes : ByteArray} {maxL : Nat} {ret : Option FieldType}
    (hown : s.vm.findClass own = some m.cls) (hlink : (Cond.methodLink own index y).before args s = true) (hinst : (Cond.instanceMethod y).before args s = true) (hsel : (Cond.selects C y y).before args s = true)
    (hcode : (Cond.code y bytes maxL ret).before args s = true) (hy : y.cls ≠ "java/lang/invoke/MethodHandle" ∧ y.cls ≠ "java/lang/invoke/VarHandle")
    {W9 : Nat} {Pre : Pt → Array Value → Prop} {Post : Pt → Array Value → Option Value → Pt → Prop} {PostX : Pt → Array Value → Addr → Pt → Prop} (hK : vx_Back l R p e below s args y 3 W9 Pre Post PostX)
    {b : Addr} {cellB : Cell} (hcell : T.heap[b]? = some cellB) (hobj : cellB.vm.isStatics = false) (hcls : s.vm.findClass C = some cellB.cls)
    {g : JFrame} (hg : g.method = m) (hsize : g.locals.size = c.maxLocals) {argsL rest : List Value} (hlen : ∀ sig, parseMethodDescriptor y.desc = some sig → argsL.length = sig.parameters.length)
    (hstack : g.stack = argsL.reverse ++ .ref b :: rest) (hW : 2 * g.monitorRoom + (rest.map fun v => v.category).sum ≤ W9) (hdg : decode c.code g.pc = .ok (.invokevirtual index, 3))
    (hpre : ∀ vm₁, s.WarmedH vm₁ → Pre ⟨T.setVm vm₁, locs, cells, slots⟩ (Value.ref b :: argsL).toArray) :
    (∃ (v : Option Value) (vm₁ : Vm) (B : Pt), s.WarmedH vm₁ ∧ Stand p l e R s m args below meth c B.U B.locs B.cells B.slots ∧ Post ⟨T.setVm vm₁, locs, cells, slots⟩ (Value.ref b :: argsL).toArray v B ∧
      ∀ target, Steps p.tables e below (B.U.setTop { g with pc := g.pc + 3, stack := v.toList ++ rest }) target → Steps p.tables e below (T.setTop g) target) ∨
    (∃ (q : Addr) (vm₁ : Vm) (B : Pt), s.WarmedH vm₁ ∧ Stand p l e R s m args below meth c B.U B.locs B.cells B.slots ∧ PostX ⟨T.setVm vm₁, locs, cells, slots⟩ (Value.ref b :: argsL).toArray q B ∧
      Steps p.tables e below (T.setTop g) ((B.U.setTop { g with stack := rest }).pushFrame (.throwing q))) := by
  obtain ⟨mk, methM, hnamed, hmethM, hstM, habM⟩ := Cond.instanceMethod_spec hinst
  obtain ⟨methM', cM, hmethM', -, -, -, -, -, -, hsigM⟩ := Cond.code_spec hnamed hcode
  cases hmethM.symm.trans hmethM'
  obtain ⟨c2, r2, m2, q1, q2, q3, q4, kP, hkP, hkPi⟩ := Cond.selects_spec hsel
  cases hcls.symm.trans q1
  cases (State.methodFound?_of_named hnamed hy).symm.trans q2
  cases hnamed.symm.trans q3
  have hselP : selectMethod e.platform s.vm cellB.cls mk = .method mk := by rw [Launch.admits_selectMethod X.admits]; exact q4
  obtain ⟨vm₁, X₁, hstep₁⟩ := X.invokevirtual hexec hown hlink hnamed hmethM hstM hkP hkPi hy (a := b) (cell := cellB) hcell
    (fun z h => by rw [h] at hobj; cases hobj) hselP hmethM habM hkP hkPi (g := g) hg (argsL := argsL) (rest := rest) (hlen _ hsigM) hstack hdg
  rcases hK m meth c ⟨T.setVm vm₁, locs, cells, slots⟩ { g with stack := rest } (.invokevirtual index) mk (Value.ref b :: argsL).toArray X₁ hg hsize hdg hW (X₁.named hnamed) (hpre vm₁ X₁.warmed) with ⟨v, B, X', hpost, hsteps⟩ | ⟨q, B, X', hpost, hsteps⟩
  · exact Or.inl ⟨v, vm₁, B, X₁.warmed, X', hpost, fun target h => hstep₁ _ fun acts => by rw [doInvoke_state]; exact hsteps.trans h⟩
  · exact Or.inr ⟨q, vm₁, B, X₁.warmed, X', hpost, hstep₁ _ fun acts => by rw [doInvoke_state]; exact hsteps⟩
theorem vx_callS (X : Stand p l e R s m args below meth c T locs cells slots) (hexec : p.tables.exec = Jvm.exec) {own : String} {index : Nat} {y : MethodName} {bytes : ByteArray} {maxL : Nat} {ret : Option FieldType}
    (hown : s.vm.findClass own = some m.cls) (hlink : (Cond.methodLink own index y).before args s = true) (hstat : (Cond.static y).before args s = true) (hinit : (Cond.initialized y.cls).before args s = true)
    (hcode : (Cond.code y bytes maxL ret).before args s = true) (hy : y.cls ≠ "java/lang/invoke/MethodHandle" ∧ y.cls ≠ "java/lang/invoke/VarHandle")
    {W9 : Nat} {Pre : Pt → Array Value → Prop} {Post : Pt → Array Value → Option Value → Pt → Prop} {PostX : Pt → Array Value → Addr → Pt → Prop} (hK : vx_Back l R p e below s args y 3 W9 Pre Post PostX)
    {g : JFrame} (hg : g.method = m) (hsize : g.locals.size = c.maxLocals) {argsL rest : List Value} (hlen : ∀ sig, parseMethodDescriptor y.desc = some sig → argsL.length = sig.parameters.length)
    (hstack : g.stack = argsL.reverse ++ rest) (hW : 2 * g.monitorRoom + (rest.map fun v => v.category).sum ≤ W9) (hdg : decode c.code g.pc = .ok (.invokestatic index, 3))
    (hpre : ∀ vm₁, s.WarmedH vm₁ → Pre ⟨T.setVm vm₁, locs, cells, slots⟩ argsL.toArray) :
    (∃ (v : Option Value) (vm₁ : Vm) (B : Pt), s.WarmedH vm₁ ∧ Stand p l e R s m args below meth c B.U B.locs B.cells B.slots ∧ Post ⟨T.setVm vm₁, locs, cells, slots⟩ argsL.toArray v B ∧
      ∀ target, Steps p.tables e below (B.U.setTop { g with pc := g.pc + 3, stack := v.toList ++ rest }) target → Steps p.tables e below (T.setTop g) target) ∨
    (∃ (q : Addr) (vm₁ : Vm) (B : Pt), s.WarmedH vm₁ ∧ Stand p l e R s m args below meth c B.U B.locs B.cells B.slots ∧ PostX ⟨T.setVm vm₁, locs, cells, slots⟩ argsL.toArray q B ∧
      Steps p.tables e below (T.setTop g) ((B.U.setTop { g with stack := rest }).pushFrame (.throwing q))) := by
  obtain ⟨mk, hnamed⟩ := Cond.code_named hcode
  obtain ⟨methM, cM, hmethM, -, -, -, -, -, -, hsigM⟩ := Cond.code_spec hnamed hcode
  have hstatic : methM.isStatic = true := Cond.static_spec hnamed hmethM hstat
  obtain ⟨kP, hkP, -⟩ := className_of_methodNamed hnamed
  have hinitP : kP.init = .initialized := Cond.initialized_spec (findClass_of_methodNamed hnamed) hkP hinit
  obtain ⟨vm₁, X₁, hstep₁⟩ := X.invokestatic hexec hown hlink hnamed hmethM hstatic hkP hinitP hy (g := g) hg (argsL := argsL) (rest := rest) (hlen _ hsigM) hstack hdg
  rcases hK m meth c ⟨T.setVm vm₁, locs, cells, slots⟩ { g with stack := rest } (.invokestatic index) mk argsL.toArray X₁ hg hsize hdg hW (X₁.named hnamed) (hpre vm₁ X₁.warmed) with ⟨v, B, X', hpost, hsteps⟩ | ⟨q, B, X', hpost, hsteps⟩
  · exact Or.inl ⟨v, vm₁, B, X₁.warmed, X', hpost, fun target h => hstep₁ _ fun acts => by rw [doInvoke_state]; exact hsteps.trans h⟩
  · exact Or.inr ⟨q, vm₁, B, X₁.warmed, X', hpost, hstep₁ _ fun acts => by rw [doInvoke_state]; exact hsteps⟩
end Calls
theorem vx_cls {s : State} {T : State} {vm₁ : Vm} {E : String} {k : ClassId} (hW : s.WarmedH vm₁) (h : (T.setVm vm₁).vm.findClass E = some k) : s.vm.findClass E = some k := by
  have h1 : vm₁.findClass E = some k := h
  rw [hW.alike.findClass] at h1
  exact h1
/-- the method's frame g, with q thrown over it -/
def vx_W (p : Program) (l : Launch) (e : Env) (R : Room) (s : State) (m : MethodId) (args : Array Value) (below : List Frame) (meth : Method) (c : Code) (H : Heap) (locs : List Loc) (cells slots : Nat) (Q : State → Prop) (g : JFrame) (q : Addr) : Prop :=
  ∀ T : State, T.heap = H → Stand p l e R s m args below meth c T locs cells slots → ∃ t, Steps p.tables e below ((T.setTop g).pushFrame (.throwing q)) t ∧ Q t
def vx_Run (p : Program) (l : Launch) (e : Env) (R : Room) (s : State) (m : MethodId) (args : Array Value) (below : List Frame) (meth : Method) (c : Code) (H : Heap) (locs : List Loc) (cells slots mc ms : Nat) (g : JFrame) (rest : List Value) (Qa : State → Outcome → State → Prop) (XC : String → State → State → Prop) (free : Addr → Prop) : Prop :=
  ∀ T : State, T.heap = H → Stand p l e R s m args below meth c T locs cells slots →
    (∃ (v : Option Value) (st₀ t T' : State) (L : List Loc), st₀.heap = H ∧ Stand p l e R s m args below meth c T' (locs ++ L) (cells + mc) (slots + ms) ∧ (∀ q ∈ L, free q.base) ∧ T'.heap = t.heap ∧ T'.vm = t.vm ∧ Qa st₀ (.returned v) t ∧
      Goes p e below T g T' { g with pc := g.pc + 3, stack := v.toList ++ rest }) ∨
    (∃ (q : Addr) (st₀ t T' : State) (L : List Loc) (E : String) (ce : Cell), st₀.heap = H ∧ Stand p l e R s m args below meth c T' (locs ++ L) (cells + mc) (slots + ms) ∧ (∀ z ∈ L, free z.base) ∧ T'.heap = t.heap ∧ T'.vm = t.vm ∧ XC E st₀ t ∧ t.heap[q]? = some ce ∧ ce.vm = .none ∧ s.vm.findClass E = some ce.cls ∧
      Steps p.tables e below (T.setTop g) ((T'.setTop { g with stack := rest }).pushFrame (.throwing q)))
def vx_X {S : Type} (px : S → Prop) (B : String → S → State → Prop) (A : Nat → Prop) : String → State → State → Prop := fun E st t => ∃ u : S, px u ∧ B E u t ∧ va_F A st t
section Runs
variable {p : Program} {l : Launch} {e : Env} {R : Room} {s : State} {m : MethodId} {args : Array Value} {below : List Frame} {meth : Method} {c : Code} {H : Heap} {locs : List Loc} {cells slots : Nat}
variable {y : MethodName} {bytes cc : ByteArray} {maxL nL mc ms n index : Nat} {ret : Option FieldType} {ws : List Cond} {rm : Room} {Pc : Array Value → State → Prop} {Qc : Array Value → State → Outcome → State → Prop} {XC : String → State → State → Prop} {free : Addr → Prop} {Ts : List Cond} {own C : String} {b : Addr} {As rest : List Value} {g : JFrame}
theorem vx_callBack (cb : CallB R s args own index y bytes maxL ret ws rm mc ms n) (hM : vx_Met l y ws rm Pc Qc XC mc ms free) (hbl : FrameBlind Pc) : vx_Back l R p e below s args y 3 8 (PreOf R mc ms Pc) (PostOf Qc mc ms free) (vx_Post XC mc ms free) := by
  obtain ⟨hrc, hrs, hfr, hlo, hws, hcw, -, hini, -⟩ := cb
  exact vx_back (bytes := bytes) (maxL := maxL) (ret := ret) hM hbl hrc hrs hfr hlo hws hcw (fun a' U hW => word_at hW (Or.inl (by first | rfl | simp [Cond.onTables, Cond.keeps, Cond.steady])) hini)
theorem vx_runV (S : CallFix p m c cc nL s args Ts own) (hM : vx_Met l y ws rm Pc Qc XC mc ms free) (cw : CallW R s args own C index y bytes maxL ret ws rm mc ms n) (hp : PreV s H C b Pc As)
    (hg : g.method = m) (hn : As.length = n) (hsize : g.locals.size = nL) (hstack : g.stack = As.reverse ++ .ref b :: rest) (hW : 2 * g.monitorRoom + (rest.map fun v => v.category).sum ≤ 8) (hdg : decode cc g.pc = .ok (.invokevirtual index, 3)) (hf : cells + mc ≤ R.cells ∧ slots + ms ≤ R.slots) :
    vx_Run p l e R s m args below meth c H locs cells slots mc ms g rest (Qc (Value.ref b :: As).toArray) XC free := by
  have hK : vx_Back l R p e below s args y 3 8 (PreOf R mc ms Pc) (PostOf Qc mc ms free) (vx_Post XC mc ms free) := vx_callBack cw.1 hM hp.1
  obtain ⟨⟨-, -, -, -, -, -, hcode, -, hy, hlen, hl⟩, hin, hse⟩ := cw
  obtain ⟨hx, hb, hml, ho, -⟩ := S
  obtain ⟨-, ⟨cellB, hcB, hoB, hclB⟩, hPc⟩ := hp
  intro T hT X
  rcases vx_callV X hx (C := C) (bytes := bytes) (maxL := maxL) (ret := ret) ho hl hin hse hcode hy hK (by rw [hT]; exact hcB) hoB hclB hg (hsize.trans hml.symm) (argsL := As) (rest := rest) (fun sig h => hn.trans (hlen sig h)) hstack hW (by rw [hb]; exact hdg)
    (fun vm₁ hW₁ => ⟨hf.1, hf.2, hPc (T.setVm vm₁) hT hW₁⟩) with ⟨v, vm₁, ⟨U', l2, c2, s2⟩, hW₁, X', ⟨g', mk, t, L, e1, e2, hq, h1, hL, h2, h3⟩, st⟩ | ⟨q, vm₁, ⟨U', l2, c2, s2⟩, hW₁, X', ⟨g', mk, t, L, E, ce, e1, e2, hq, hce, hcv, hcl, h1, hL, h2, h3⟩, st⟩
  · dsimp only [Pt.U, Pt.locs, Pt.cells, Pt.slots] at X' e1 e2 h1 h2 h3 st
    subst h1; subst h2; subst h3
    exact Or.inl ⟨v, (T.setVm vm₁).calling g' mk (Value.ref b :: As).toArray, t, U', L, hT, X', hL, e1, e2, hq, st⟩
  · dsimp only [Pt.U, Pt.locs, Pt.cells, Pt.slots] at X' e1 e2 h1 h2 h3 st hcl
    subst h1; subst h2; subst h3
    exact Or.inr ⟨q, (T.setVm vm₁).calling g' mk (Value.ref b :: As).toArray, t, U', L, E, ce, hT, X', hL, e1, e2, hq, hce, hcv, vx_cls hW₁ hcl, st⟩
theorem vx_runS (S : CallFix p m c cc nL s args Ts own) (hM : vx_Met l y ws rm Pc Qc XC mc ms free) (cw : CallB R s args own index y bytes maxL ret ws rm mc ms n ∧ (Cond.static y).before args s = true) (hp : PreS s H Pc As)
    (hg : g.method = m) (hn : As.length = n) (hsize : g.locals.size = nL) (hstack : g.stack = As.reverse ++ rest) (hW : 2 * g.monitorRoom + (rest.map fun v => v.category).sum ≤ 8) (hdg : decode cc g.pc = .ok (.invokestatic index, 3)) (hf : cells + mc ≤ R.cells ∧ slots + ms ≤ R.slots) :
    vx_Run p l e R s m args below meth c H locs cells slots mc ms g rest (Qc As.toArray) XC free := by
  have hK : vx_Back l R p e below s args y 3 8 (PreOf R mc ms Pc) (PostOf Qc mc ms free) (vx_Post XC mc ms free) := vx_callBack cw.1 hM hp.1
  obtain ⟨⟨-, -, -, -, -, -, hcode, hini, hy, hlen, hl⟩, hstt⟩ := cw
  obtain ⟨hx, hb, hml, ho, -⟩ := S
  intro T hT X
  rcases vx_callS X hx (bytes := bytes) (maxL := maxL) (ret := ret) ho hl hstt hini hcode hy hK hg (hsize.trans hml.symm) (argsL := As) (rest := rest) (fun sig h => hn.trans (hlen sig h)) hstack hW (by rw [hb]; exact hdg)
    (fun vm₁ hW₁ => ⟨hf.1, hf.2, hp.2 (T.setVm vm₁) hT hW₁⟩) with ⟨v, vm₁, ⟨U', l2, c2, s2⟩, hW₁, X', ⟨g', mk, t, L, e1, e2, hq, h1, hL, h2, h3⟩, st⟩ | ⟨q, vm₁, ⟨U', l2, c2, s2⟩, hW₁, X', ⟨g', mk, t, L, E, ce, e1, e2, hq, hce, hcv, hcl, h1, hL, h2, h3⟩, st⟩
  · dsimp only [Pt.U, Pt.locs, Pt.cells, Pt.slots] at X' e1 e2 h1 h2 h3 st
    subst h1; subst h2; subst h3
    exact Or.inl ⟨v, (T.setVm vm₁).calling g' mk As.toArray, t, U', L, hT, X', hL, e1, e2, hq, st⟩
  · dsimp only [Pt.U, Pt.locs, Pt.cells, Pt.slots] at X' e1 e2 h1 h2 h3 st hcl
    subst h1; subst h2; subst h3
    exact Or.inr ⟨q, (T.setVm vm₁).calling g' mk As.toArray, t, U', L, E, ce, hT, X', hL, e1, e2, hq, hce, hcv, vx_cls hW₁ hcl, st⟩
end Runs
section Rows
variable {p : Program} {l : Launch} {e : Env} {R : Room} {s : State} {m : MethodId} {args : Array Value} {below : List Frame} {meth : Method} {c : Code} {H : Heap} {locs : List Loc} {cells slots : Nat} {Q : State → Prop}
variable {mc ms : Nat} {free : Addr → Prop} {A0 A1 : Nat → Prop} {H0 : Heap} {a : Array Value} {pc : Nat} {ls : Array Slot} {st0 rest : List Value}
theorem vx_keep {st₀ t T' : State} {L : List Loc} (h0 : st₀.heap = H) (e1 : T'.heap = t.heap) (hS : va_S A0 H0 H locs) (hA : ∀ q, q < H.size → A1 q → A0 q) (hf : ∀ q, free q → A0 q) (hL : ∀ q ∈ L, free q.base) (hF : va_F A1 st₀ t) :
    H.size ≤ T'.heap.size ∧ (∀ q : Nat, q < H.size → ¬ A1 q → T'.heap[q]? = H[q]?) ∧ va_S A0 H0 T'.heap (locs ++ L) := by
  obtain ⟨hz, hk⟩ := hF
  rw [h0] at hz hk
  exact ⟨by rw [e1]; exact hz, fun q h1 h2 => by rw [e1]; exact hk q h1 h2,
    ⟨Nat.le_trans hS.1 (by rw [e1]; exact hz), fun q h1 h2 => by rw [e1, hk q (Nat.lt_of_lt_of_le h1 hS.1) (fun z => h2 (hA q (Nat.lt_of_lt_of_le h1 hS.1) z))]; exact hS.2.1 q h1 h2, fun q hq => by
      rcases List.mem_append.mp hq with h | h
      · exact hS.2.2 q h
      · exact hf _ (hL q h)⟩⟩
theorem vx_calli {S SX : Type} {post : Int32 → S → Prop} {px : SX → Prop} {B : S → State → Prop} {BX : String → SX → State → Prop} {AX : Nat → Prop} (hr : vx_Run p l e R s m args below meth c H locs cells slots mc ms (F0 m pc ls st0) rest (va_Qi post B A1 a) (vx_X px BX AX) free) (hS : va_S A0 H0 H locs) (hA : ∀ q, q < H.size → A1 q → A0 q) (hf : ∀ q, free q → A0 q) (hAX : ∀ q, q < H.size → AX q → A0 q)
    (kx : ∀ (E : String) (ce : Cell) (q9 : Addr) (u : SX) (t : State) (H1 : Heap) (locs1 : List Loc), t.heap = H1 → s.vm.Alike t.vm → px u → BX E u t → H.size ≤ H1.size → (∀ q : Nat, q < H.size → ¬ AX q → H1[q]? = H[q]?) → va_S A0 H0 H1 locs1 → H1[q9]? = some ce → ce.vm = .none → s.vm.findClass E = some ce.cls → vx_W p l e R s m args below meth c H1 locs1 (cells + mc) (slots + ms) Q (F0 m pc ls rest) q9)
    (kk : ∀ (r : Int32) (u : S) (t : State) (H1 : Heap) (locs1 : List Loc), t.heap = H1 → s.vm.Alike t.vm → post r u → B u t → H.size ≤ H1.size → (∀ q : Nat, q < H.size → ¬ A1 q → H1[q]? = H[q]?) → va_S A0 H0 H1 locs1 → W p l e R s m args below meth c H1 locs1 (cells + mc) (slots + ms) Q (F0 m (pc + 3) ls (.int r :: rest))) : W p l e R s m args below meth c H locs cells slots Q (F0 m pc ls st0) := by
  intro T hT X
  rcases hr T hT X with ⟨v, st₀, t, T', L, h0, X', hL, e1, e2, ⟨⟨r, u, hv, hp, hb⟩, hF⟩, st⟩ | ⟨q, st₀, t, T', L, E, ce, h0, X', hL, e1, e2, ⟨u, hp, hb, hF⟩, hce, hcv, hcl, st⟩
  · cases hv
    obtain ⟨k1, k2, k3⟩ := vx_keep h0 e1 hS hA hf hL hF
    obtain ⟨t2, a1, b1⟩ := kk r u t T'.heap (locs ++ L) e1.symm (by rw [← e2]; exact X'.warmed.alike) hp hb k1 k2 k3 T' rfl X'
    exact ⟨t2, st t2 a1, b1⟩
  · obtain ⟨k1, k2, k3⟩ := vx_keep h0 e1 hS hAX hf hL hF
    obtain ⟨t2, a1, b1⟩ := kx E ce q u t T'.heap (locs ++ L) e1.symm (by rw [← e2]; exact X'.warmed.alike) hp hb k1 k2 k3 (by rw [e1]; exact hce) hcv hcl T' rfl X'
    exact ⟨t2, st.trans a1, b1⟩
theorem vx_calll {S SX : Type} {post : Int64 → S → Prop} {px : SX → Prop} {B : S → State → Prop} {BX : String → SX → State → Prop} {AX : Nat → Prop} (hr : vx_Run p l e R s m args below meth c H locs cells slots mc ms (F0 m pc ls st0) rest (va_Ql post B A1 a) (vx_X px BX AX) free) (hS : va_S A0 H0 H locs) (hA : ∀ q, q < H.size → A1 q → A0 q) (hf : ∀ q, free q → A0 q) (hAX : ∀ q, q < H.size → AX q → A0 q)
    (kx : ∀ (E : String) (ce : Cell) (q9 : Addr) (u : SX) (t : State) (H1 : Heap) (locs1 : List Loc), t.heap = H1 → s.vm.Alike t.vm → px u → BX E u t → H.size ≤ H1.size → (∀ q : Nat, q < H.size → ¬ AX q → H1[q]? = H[q]?) → va_S A0 H0 H1 locs1 → H1[q9]? = some ce → ce.vm = .none → s.vm.findClass E = some ce.cls → vx_W p l e R s m args below meth c H1 locs1 (cells + mc) (slots + ms) Q (F0 m pc ls rest) q9)
    (kk : ∀ (r : Int64) (u : S) (t : State) (H1 : Heap) (locs1 : List Loc), t.heap = H1 → s.vm.Alike t.vm → post r u → B u t → H.size ≤ H1.size → (∀ q : Nat, q < H.size → ¬ A1 q → H1[q]? = H[q]?) → va_S A0 H0 H1 locs1 → W p l e R s m args below meth c H1 locs1 (cells + mc) (slots + ms) Q (F0 m (pc + 3) ls (.long r :: rest))) : W p l e R s m args below meth c H locs cells slots Q (F0 m pc ls st0) := by
  intro T hT X
  rcases hr T hT X with ⟨v, st₀, t, T', L, h0, X', hL, e1, e2, ⟨⟨r, u, hv, hp, hb⟩, hF⟩, st⟩ | ⟨q, st₀, t, T', L, E, ce, h0, X', hL, e1, e2, ⟨u, hp, hb, hF⟩, hce, hcv, hcl, st⟩
  · cases hv
    obtain ⟨k1, k2, k3⟩ := vx_keep h0 e1 hS hA hf hL hF
    obtain ⟨t2, a1, b1⟩ := kk r u t T'.heap (locs ++ L) e1.symm (by rw [← e2]; exact X'.warmed.alike) hp hb k1 k2 k3 T' rfl X'
    exact ⟨t2, st t2 a1, b1⟩
  · obtain ⟨k1, k2, k3⟩ := vx_keep h0 e1 hS hAX hf hL hF
    obtain ⟨t2, a1, b1⟩ := kx E ce q u t T'.heap (locs ++ L) e1.symm (by rw [← e2]; exact X'.warmed.alike) hp hb k1 k2 k3 (by rw [e1]; exact hce) hcv hcl T' rfl X'
    exact ⟨t2, st.trans a1, b1⟩
theorem vx_callf {S SX : Type} {post : UInt32 → S → Prop} {px : SX → Prop} {B : S → State → Prop} {BX : String → SX → State → Prop} {AX : Nat → Prop} (hr : vx_Run p l e R s m args below meth c H locs cells slots mc ms (F0 m pc ls st0) rest (va_Qf post B A1 a) (vx_X px BX AX) free) (hS : va_S A0 H0 H locs) (hA : ∀ q, q < H.size → A1 q → A0 q) (hf : ∀ q, free q → A0 q) (hAX : ∀ q, q < H.size → AX q → A0 q)
    (kx : ∀ (E : String) (ce : Cell) (q9 : Addr) (u : SX) (t : State) (H1 : Heap) (locs1 : List Loc), t.heap = H1 → s.vm.Alike t.vm → px u → BX E u t → H.size ≤ H1.size → (∀ q : Nat, q < H.size → ¬ AX q → H1[q]? = H[q]?) → va_S A0 H0 H1 locs1 → H1[q9]? = some ce → ce.vm = .none → s.vm.findClass E = some ce.cls → vx_W p l e R s m args below meth c H1 locs1 (cells + mc) (slots + ms) Q (F0 m pc ls rest) q9)
    (kk : ∀ (r : UInt32) (u : S) (t : State) (H1 : Heap) (locs1 : List Loc), t.heap = H1 → s.vm.Alike t.vm → post r u → B u t → H.size ≤ H1.size → (∀ q : Nat, q < H.size → ¬ A1 q → H1[q]? = H[q]?) → va_S A0 H0 H1 locs1 → W p l e R s m args below meth c H1 locs1 (cells + mc) (slots + ms) Q (F0 m (pc + 3) ls (.float r :: rest))) : W p l e R s m args below meth c H locs cells slots Q (F0 m pc ls st0) := by
  intro T hT X
  rcases hr T hT X with ⟨v, st₀, t, T', L, h0, X', hL, e1, e2, ⟨⟨r, u, hv, hp, hb⟩, hF⟩, st⟩ | ⟨q, st₀, t, T', L, E, ce, h0, X', hL, e1, e2, ⟨u, hp, hb, hF⟩, hce, hcv, hcl, st⟩
  · cases hv
    obtain ⟨k1, k2, k3⟩ := vx_keep h0 e1 hS hA hf hL hF
    obtain ⟨t2, a1, b1⟩ := kk r u t T'.heap (locs ++ L) e1.symm (by rw [← e2]; exact X'.warmed.alike) hp hb k1 k2 k3 T' rfl X'
    exact ⟨t2, st t2 a1, b1⟩
  · obtain ⟨k1, k2, k3⟩ := vx_keep h0 e1 hS hAX hf hL hF
    obtain ⟨t2, a1, b1⟩ := kx E ce q u t T'.heap (locs ++ L) e1.symm (by rw [← e2]; exact X'.warmed.alike) hp hb k1 k2 k3 (by rw [e1]; exact hce) hcv hcl T' rfl X'
    exact ⟨t2, st.trans a1, b1⟩
theorem vx_calld {S SX : Type} {post : UInt64 → S → Prop} {px : SX → Prop} {B : S → State → Prop} {BX : String → SX → State → Prop} {AX : Nat → Prop} (hr : vx_Run p l e R s m args below meth c H locs cells slots mc ms (F0 m pc ls st0) rest (va_Qd post B A1 a) (vx_X px BX AX) free) (hS : va_S A0 H0 H locs) (hA : ∀ q, q < H.size → A1 q → A0 q) (hf : ∀ q, free q → A0 q) (hAX : ∀ q, q < H.size → AX q → A0 q)
    (kx : ∀ (E : String) (ce : Cell) (q9 : Addr) (u : SX) (t : State) (H1 : Heap) (locs1 : List Loc), t.heap = H1 → s.vm.Alike t.vm → px u → BX E u t → H.size ≤ H1.size → (∀ q : Nat, q < H.size → ¬ AX q → H1[q]? = H[q]?) → va_S A0 H0 H1 locs1 → H1[q9]? = some ce → ce.vm = .none → s.vm.findClass E = some ce.cls → vx_W p l e R s m args below meth c H1 locs1 (cells + mc) (slots + ms) Q (F0 m pc ls rest) q9)
    (kk : ∀ (r : UInt64) (u : S) (t : State) (H1 : Heap) (locs1 : List Loc), t.heap = H1 → s.vm.Alike t.vm → post r u → B u t → H.size ≤ H1.size → (∀ q : Nat, q < H.size → ¬ A1 q → H1[q]? = H[q]?) → va_S A0 H0 H1 locs1 → W p l e R s m args below meth c H1 locs1 (cells + mc) (slots + ms) Q (F0 m (pc + 3) ls (.double r :: rest))) : W p l e R s m args below meth c H locs cells slots Q (F0 m pc ls st0) := by
  intro T hT X
  rcases hr T hT X with ⟨v, st₀, t, T', L, h0, X', hL, e1, e2, ⟨⟨r, u, hv, hp, hb⟩, hF⟩, st⟩ | ⟨q, st₀, t, T', L, E, ce, h0, X', hL, e1, e2, ⟨u, hp, hb, hF⟩, hce, hcv, hcl, st⟩
  · cases hv
    obtain ⟨k1, k2, k3⟩ := vx_keep h0 e1 hS hA hf hL hF
    obtain ⟨t2, a1, b1⟩ := kk r u t T'.heap (locs ++ L) e1.symm (by rw [← e2]; exact X'.warmed.alike) hp hb k1 k2 k3 T' rfl X'
    exact ⟨t2, st t2 a1, b1⟩
  · obtain ⟨k1, k2, k3⟩ := vx_keep h0 e1 hS hAX hf hL hF
    obtain ⟨t2, a1, b1⟩ := kx E ce q u t T'.heap (locs ++ L) e1.symm (by rw [← e2]; exact X'.warmed.alike) hp hb k1 k2 k3 (by rw [e1]; exact hce) hcv hcl T' rfl X'
    exact ⟨t2, st.trans a1, b1⟩
theorem vx_callv {S SX : Type} {post : S → Prop} {px : SX → Prop} {B : S → State → Prop} {BX : String → SX → State → Prop} {AX : Nat → Prop} (hr : vx_Run p l e R s m args below meth c H locs cells slots mc ms (F0 m pc ls st0) rest (va_Qv post B A1 a) (vx_X px BX AX) free) (hS : va_S A0 H0 H locs) (hA : ∀ q, q < H.size → A1 q → A0 q) (hf : ∀ q, free q → A0 q) (hAX : ∀ q, q < H.size → AX q → A0 q)
    (kx : ∀ (E : String) (ce : Cell) (q9 : Addr) (u : SX) (t : State) (H1 : Heap) (locs1 : List Loc), t.heap = H1 → s.vm.Alike t.vm → px u → BX E u t → H.size ≤ H1.size → (∀ q : Nat, q < H.size → ¬ AX q → H1[q]? = H[q]?) → va_S A0 H0 H1 locs1 → H1[q9]? = some ce → ce.vm = .none → s.vm.findClass E = some ce.cls → vx_W p l e R s m args below meth c H1 locs1 (cells + mc) (slots + ms) Q (F0 m pc ls rest) q9)
    (kk : ∀ (u : S) (t : State) (H1 : Heap) (locs1 : List Loc), t.heap = H1 → s.vm.Alike t.vm → post u → B u t → H.size ≤ H1.size → (∀ q : Nat, q < H.size → ¬ A1 q → H1[q]? = H[q]?) → va_S A0 H0 H1 locs1 → W p l e R s m args below meth c H1 locs1 (cells + mc) (slots + ms) Q (F0 m (pc + 3) ls (rest))) : W p l e R s m args below meth c H locs cells slots Q (F0 m pc ls st0) := by
  intro T hT X
  rcases hr T hT X with ⟨v, st₀, t, T', L, h0, X', hL, e1, e2, ⟨⟨u, hv, hp, hb⟩, hF⟩, st⟩ | ⟨q, st₀, t, T', L, E, ce, h0, X', hL, e1, e2, ⟨u, hp, hb, hF⟩, hce, hcv, hcl, st⟩
  · cases hv
    obtain ⟨k1, k2, k3⟩ := vx_keep h0 e1 hS hA hf hL hF
    obtain ⟨t2, a1, b1⟩ := kk u t T'.heap (locs ++ L) e1.symm (by rw [← e2]; exact X'.warmed.alike) hp hb k1 k2 k3 T' rfl X'
    exact ⟨t2, st t2 a1, b1⟩
  · obtain ⟨k1, k2, k3⟩ := vx_keep h0 e1 hS hAX hf hL hF
    obtain ⟨t2, a1, b1⟩ := kx E ce q u t T'.heap (locs ++ L) e1.symm (by rw [← e2]; exact X'.warmed.alike) hp hb k1 k2 k3 (by rw [e1]; exact hce) hcv hcl T' rfl X'
    exact ⟨t2, st.trans a1, b1⟩
/-- caught by the row x of this method's table; the rows ahead don't take it -/
theorem vx_catch {own name : String} {E : String} {ce : Cell} {q : Addr} (hown : s.vm.findClass own = some m.cls) (pre : List ExceptionTableEntry) (x : ExceptionTableEntry) (suf : List ExceptionTableEntry) (hsplit : c.exceptionTable.toList = pre ++ x :: suf)
    (hpass : ∀ z ∈ pre, covers z pc = false ∨ (z.catchType ≠ 0 ∧ ∃ nm : String, (Cond.classLink own z.catchType nm).before args s = true ∧ va_Nc E nm s)) (hx : covers x pc = true) (h0 : x.catchType ≠ 0)
    (hlink : (Cond.classLink own x.catchType name).before args s = true) (hcast : (Cond.castable E name).before args s = true) (hcell : H[q]? = some ce) (hv : ce.vm = .none) (hcl : s.vm.findClass E = some ce.cls)
    (kk : W p l e R s m args below meth c H locs cells slots Q (F0 m x.handlerPc ls [.ref q])) : vx_W p l e R s m args below meth c H locs cells slots Q (F0 m pc ls rest) q := by
  intro T hT X
  have hpl : e.platform.magicAccessors = ({} : Platform).magicAccessors := by rw [X.admits.platform]
  obtain ⟨c3, c4, hc3, hc4, hasg⟩ := Cond.castable_spec hcast
  cases Option.some.inj (hc3.symm.trans hcl)
  obtain ⟨c5, hc5, hcl5⟩ := Cond.classLink_spec hown hlink e.platform hpl
  cases Option.some.inj (hc4.symm.trans hc5)
  obtain ⟨vm', X', st⟩ := X.thenCaughtThrough q (g := F0 m pc ls rest) rfl (Steps.refl _) (by rw [hT]; exact hcell) (by rw [hv]; rfl) (by obtain ⟨k9, h9, -⟩ := Vm.findClass_spec hcl; exact ⟨k9, h9⟩) pre x suf hsplit
    (fun z hz => by
      rcases hpass z hz with h | ⟨hz0, nm, hl1, hn1⟩
      · exact Or.inl h
      · obtain ⟨c6, hc6, hcl6⟩ := Cond.classLink_spec hown hl1 e.platform hpl
        obtain ⟨a8, b8, h1, h2, h3⟩ := hn1
        cases Option.some.inj (h1.symm.trans hcl)
        cases Option.some.inj (h2.symm.trans hc6)
        exact Or.inr ⟨hz0, _, hcl6, h3⟩) hx (Or.inr ⟨h0, c4, hcl5, hasg⟩)
  obtain ⟨t, a1, b1⟩ := kk (T.setVm vm') hT X'
  exact ⟨t, st.trans a1, b1⟩
end Rows
section Ends
variable {p : Program} {l : Launch} {e : Env} {R : Room} {s : State} {m : MethodId} {args : Array Value} {below : List Frame} {meth : Method} {c : Code} {H : Heap} {locs : List Loc} {cells slots : Nat} {Q : State → Prop}
variable {mc ms : Nat} {free : Addr → Prop} {A0 A1 : Nat → Prop} {H0 : Heap} {a : Array Value} {ls : Array Slot} {st0 rest : List Value}
variable {Qc : Array Value → State → Outcome → State → Prop} {XC : String → State → State → Prop}
/-- what a body that may throw owes at its end -/
def vx_MQ (below : List Frame) (Qc : Array Value → State → Outcome → State → Prop) (XC : String → State → State → Prop) (a : Array Value) (s : State) (mc ms : Nat) (free : Addr → Prop) : State → Prop := fun t =>
  ∃ o, t.status = .running ∧ Ended t below o ∧ vx_Q Qc XC mc ms free a s o t
theorem vx_ret {g : JFrame} {mc ms : Nat} (k : W p l e R s m args below meth c H locs cells slots (MQ below Qc args s mc ms free) g) : W p l e R s m args below meth c H locs cells slots (vx_MQ below Qc XC args s mc ms free) g := by
  intro T hT X
  obtain ⟨t, a1, o, b1, b2, b3, b4⟩ := k T hT X
  exact ⟨t, a1, o, b1, b2, Or.inl ⟨b3, b4⟩⟩
/-- not caught here: it goes on to the caller -/
theorem vx_widen {g : JFrame} {q : Addr} {k n : Nat} (h1 : cells ≤ k) (h2 : slots ≤ n) (kk : vx_W p l e R s m args below meth c H locs k n Q g q) : vx_W p l e R s m args below meth c H locs cells slots Q g q := fun T hT X => kk T hT (stand_widen X h1 h2)
theorem vx_out {pc : Nat} {E : String} {ce : Cell} {q : Addr} {mc ms : Nat} (hout : ∀ x ∈ c.exceptionTable.toList, covers x pc = false) (hlocks : meth.locks = false) (hcell : H[q]? = some ce) (hv : ce.vm = .none) (hcl : s.vm.findClass E = some ce.cls)
    (hx : ∀ t : State, t.heap = H → s.vm.Alike t.vm → XC E s t) (hf : ∀ z ∈ locs, free z.base) (hc : cells ≤ mc) (hs : slots ≤ ms) :
    vx_W p l e R s m args below meth c H locs cells slots (vx_MQ below Qc XC args s mc ms free) (F0 m pc ls rest) q := by
  intro T hT X
  obtain ⟨st1, hrun, hend, hW, hsm⟩ := X.leaveThrown q (g := F0 m pc ls rest) rfl rfl rfl hout hlocks
  have hcell9 : (T.setFrames (.throwing q :: below)).heap[q]? = some ce := by
    show T.heap[q]? = some ce
    rw [hT]; exact hcell
  exact ⟨_, st1, .threw q, hrun, hend, Or.inr ⟨q, rfl, E, ce, locs, hx _ hT hW.alike, hcell9, hv, hcl, hW, hsm.mono hc hs, hf⟩⟩
theorem vx_frame {U : State} {k n : Nat} (h : s.sameButNew ({ U with vm := s.vm } : State) locs k n) : s.heap.size ≤ U.heap.size ∧ ∀ q : Nat, q < s.heap.size → (∀ z ∈ locs, z.base ≠ q) → U.heap[q]? = s.heap[q]? := by
  obtain ⟨-, h2, -, -, -, h6⟩ := h
  refine ⟨h2, fun q hq hz => ?_⟩
  obtain ⟨c9, e1, e2, e3, e4⟩ := h6 q _ (Array.getElem?_eq_getElem hq)
  have hs : c9.slots = (s.heap[q]).slots := Array.ext_getElem? fun i => e4 i fun hm => hz _ hm rfl
  have h9 : c9 = s.heap[q] := by
    rw [hs] at e2
    exact e2
  have e5 : U.heap[q]? = some c9 := e1
  rw [e5, h9, Array.getElem?_eq_getElem hq]
/-- the words of a throw but the four that speak of the heap -/
def vx_no (w : Cond) : Bool := decide (w ≠ .isRef (.static Bundle.tN "UNASSIGNED_STACK" Bundle.steD)) && decide (w ≠ .isRef (.static Bundle.tN "SUPPRESSED_SENTINEL" Bundle.listD)) && decide (w ≠ .laysStatic Bundle.tN "UNASSIGNED_STACK" Bundle.steD) && decide (w ≠ .laysStatic Bundle.tN "SUPPRESSED_SENTINEL" Bundle.listD)
def vx_at0 (own : String) (ic : Nat) (X : String) (names : List String) : List Cond := (Bundle.ownAtoms0 own ic X names).filter vx_no
def vx_atS (own : String) (ic : Nat) (X : String) (names : List String) : List Cond := (Bundle.ownAtoms own ic X names).filter vx_no
/-- a word that the tables alone decide, or a good one -/
def vx_ot (w : Cond) : Bool := w.onTables || goodWord w
theorem vx_ot_at {args a' : Array Value} {s U : State} {w : Cond} (hW : s.WarmedH U.vm) (hvm : s.vm = U.vm) (hg : vx_ot w = true) (h : w.before args s = true) : w.before a' U = true := by
  simp only [vx_ot, Bool.or_eq_true] at hg
  rcases hg with hg | hg
  · exact va_tabs hg hvm h
  · exact word_at hW (good_of_word hg) h
/-- a list's words: the good ones out of the method's own list, the others by premises of their own -/
theorem vx_hat {args : Array Value} {s : State} {L B : List Cond} (h1 : ∀ w ∈ L.filter goodWord, w.before args s = true) (h2 : ∀ w ∈ L.filter (fun w => !goodWord w), w ∈ B) (h3 : ∀ w ∈ B, w.before args s = true) : ∀ w ∈ L, w.before args s = true := by
  intro w hw
  by_cases g : goodWord w = true
  · exact h1 w (List.mem_filter.mpr ⟨hw, g⟩)
  · refine h3 w (h2 w (List.mem_filter.mpr ⟨hw, ?_⟩))
    show (!goodWord w) = true
    cases hgw : goodWord w
    · rfl
    · exact absurd hgw g
theorem vx_c {args : Array Value} {s : State} {w : Cond} {B : List Cond} (h : w.before args s = true) (t : ∀ w ∈ B, w.before args s = true) : ∀ w' ∈ w :: B, w'.before args s = true := fun w' h' => (List.mem_cons.mp h').elim (fun e => by rw [e]; exact h) (t w')
theorem vx_n {args : Array Value} {s : State} : ∀ w ∈ ([] : List Cond), w.before args s = true := fun _ h => nomatch h
theorem vx_own {args : Array Value} {s : State} {L : List Cond} (h1 : ∀ w ∈ L.filter vx_no, w.before args s = true)
    (hU : (Cond.isRef (.static Bundle.tN "UNASSIGNED_STACK" Bundle.steD)).before args s = true) (hN : (Cond.isRef (.static Bundle.tN "SUPPRESSED_SENTINEL" Bundle.listD)).before args s = true)
    (lU : (Cond.laysStatic Bundle.tN "UNASSIGNED_STACK" Bundle.steD).before args s = true) (lN : (Cond.laysStatic Bundle.tN "SUPPRESSED_SENTINEL" Bundle.listD).before args s = true) : ∀ w ∈ L, w.before args s = true := by
  intro w hw
  by_cases e1 : w = .isRef (.static Bundle.tN "UNASSIGNED_STACK" Bundle.steD)
  · rw [e1]; exact hU
  · by_cases e2 : w = .isRef (.static Bundle.tN "SUPPRESSED_SENTINEL" Bundle.listD)
    · rw [e2]; exact hN
    · by_cases e3 : w = .laysStatic Bundle.tN "UNASSIGNED_STACK" Bundle.steD
      · rw [e3]; exact lU
      · by_cases e4 : w = .laysStatic Bundle.tN "SUPPRESSED_SENTINEL" Bundle.listD
        · rw [e4]; exact lN
        · exact h1 w (List.mem_filter.mpr ⟨hw, by unfold vx_no; rw [decide_eq_true e1, decide_eq_true e2, decide_eq_true e3, decide_eq_true e4]; rfl⟩)
/-- where a static field lies, its class's statics cell in H -/
def vx_L (C n d : String) (A : Nat → Prop) (U : State) (H : Heap) : Prop := ∃ (c : ClassId) (k : Class) (i : Nat) (f : Field) (a : Nat) (cell : Cell), U.vm.findClass C = some c ∧ U.fieldFound? C n d = some (c, k, i, f) ∧ f.isStatic = true ∧ k.statics = some a ∧ H[a]? = some cell ∧ cell.vm.isStatics = true ∧ cell.cls = c ∧ f.slot < cell.slots.size ∧ k.staticTypes[f.slot]? = some f.type ∧ ¬ A a
theorem vx_L.moved {C n d : String} {A : Nat → Prop} {u U : State} {H : Heap} (hvm : u.vm.Alike U.vm) (h : vx_L C n d A u H) : vx_L C n d A U H := by
  obtain ⟨c, k, i, f, a, cell, h1, h2, h3, h4, h5, h6, h7, h8, h9, h10⟩ := h
  obtain ⟨k', hi', he⟩ := State.fieldFound?_setVm hvm h2
  exact ⟨c, k', i, f, a, cell, by rw [hvm.findClass]; exact h1, hi', h3, by rw [he]; exact h4, h5, h6, h7, h8, by rw [he]; exact h9, h10⟩
theorem vx_L.kept {C n d : String} {A : Nat → Prop} {U : State} {H H1 : Heap} (h : vx_L C n d A U H) (hq : ∀ a : Nat, a < H.size → ¬ A a → H1[a]? = H[a]?) : vx_L C n d A U H1 := by
  obtain ⟨c, k, i, f, a, cell, h1, h2, h3, h4, h5, h6, h7, h8, h9, h10⟩ := h
  exact ⟨c, k, i, f, a, cell, h1, h2, h3, h4, by rw [hq a (Array.getElem?_eq_some_iff.mp h5).1 h10]; exact h5, h6, h7, h8, h9, h10⟩
theorem vx_L.narrow {C n d : String} {A B : Nat → Prop} {U : State} {H : Heap} (h : vx_L C n d A U H) (hAB : ∀ q, B q → A q) : vx_L C n d B U H := by
  obtain ⟨c, k, i, f, a, cell, h1, h2, h3, h4, h5, h6, h7, h8, h9, h10⟩ := h
  exact ⟨c, k, i, f, a, cell, h1, h2, h3, h4, h5, h6, h7, h8, h9, fun z => h10 (hAB _ z)⟩
theorem vx_L.word {C n d : String} {A : Nat → Prop} {s : State} {args : Array Value} (h : vx_L C n d A s s.heap) : (Cond.laysStatic C n d).before args s = true := by
  obtain ⟨c, k, i, f, a, cell, h1, h2, h3, h4, h5, h6, h7, h8, h9, -⟩ := h
  show (Cond.laysStatic C n d).holds args s none s [] = true
  exact Cond.laysStatic_of h1 h2 h3 h4 h5 h6 h7 h8 h9
/-- .. and what it holds: null or some reference -/
def vx_Zq (C n d : String) (A : Nat → Prop) (U : State) (H : Heap) : Prop := va_Zq C n d A U H ∧ vx_L C n d A U H
theorem vx_Zq.moved {C n d : String} {A : Nat → Prop} {u U : State} {H : Heap} (hvm : u.vm.Alike U.vm) (h : vx_Zq C n d A u H) : vx_Zq C n d A U H := ⟨va_Zq.moved hvm h.1, vx_L.moved hvm h.2⟩
theorem vx_Zq.kept {C n d : String} {A : Nat → Prop} {U : State} {H H1 : Heap} (h : vx_Zq C n d A U H) (hq : ∀ a : Nat, a < H.size → ¬ A a → H1[a]? = H[a]?) : vx_Zq C n d A U H1 := ⟨va_Zq.kept h.1 hq, vx_L.kept h.2 hq⟩
theorem vx_Zq.narrow {C n d : String} {A B : Nat → Prop} {U : State} {H : Heap} (h : vx_Zq C n d A U H) (hAB : ∀ q, B q → A q) : vx_Zq C n d B U H := ⟨va_Zq.narrow h.1 hAB, vx_L.narrow h.2 hAB⟩
theorem vx_Zqof {args : Array Value} {s : State} {C n d : String} {A : Nat → Prop} (hl : (Cond.laysStatic C n d).before args s = true) (hini : (Cond.initialized C).before args s = true) (h : (Cond.isRef (.static C n d)).before args s = true) (hA : ∀ a : Nat, a < s.heap.size → ¬ A a) : vx_Zq C n d A s s.heap := by
  refine ⟨va_Zqof hl hini h hA, ?_⟩
  obtain ⟨c, k, i, f, a, cell, h1, h2, h3, h4, h5, h6, h7, h8, h9⟩ := Cond.laysStatic_spec hl
  exact ⟨c, k, i, f, a, cell, h1, h2, h3, h4, h5, h6, h7, h8, h9, hA a (Array.getElem?_eq_some_iff.mp h5).1⟩
theorem vx_isRef {C n d : String} {v : Value} {A : Nat → Prop} {s : State} {args : Array Value} (h : va_Z C n d v A s s.heap) (hv : v.isRef = true) : (Cond.isRef (.static C n d)).before args s = true := by
  obtain ⟨cf, kf, fi, f, a, cell, h1, h2, h3, h4, h5, h6, h7, -⟩ := h
  have he : (Term.static C n d).eval args s none [] s = some v := by
    simp [Term.eval, State.fieldNamed?, h1, h2, h4, h5, h6, h7]
  simp only [Cond.before, Cond.holds, Cond.value, he]
  cases v <;> simp_all [Value.isRef]
theorem vx_isRefq {C n d : String} {A : Nat → Prop} {s : State} {args : Array Value} (h : va_Zq C n d A s s.heap) : (Cond.isRef (.static C n d)).before args s = true := by
  rcases h with h | ⟨t, h⟩
  · exact vx_isRef h rfl
  · exact vx_isRef h rfl
/-- the same frame, seen from here: as if the method were called anew in this heap -/
theorem vx_rebase {T : State} (X : Stand p l e R s m args below meth c T locs cells slots) {R' : Room} (hf : R'.frames ≤ R.frames) (hl : R'.locals ≤ R.locals) (hc : cells + R'.cells ≤ R.cells) (hs : slots + R'.slots ≤ R.slots) :
    Stand p l e R' ((T.setVm s.vm).setFrames (.invoking m args :: below)) m args below meth c T [] 0 0 := by
  have htop : (T.setVm s.vm).topJava?.isSome := X.here.top
  have hF : ((T.setVm s.vm).setFrames (.invoking m args :: below)).frames = .invoking m args :: below := State.frames_setFrames _ (State.cur_lt_of_top htop)
  obtain ⟨g₀, hg0⟩ := Option.isSome_iff_exists.mp htop
  obtain ⟨r, hr⟩ := State.topJava?_eq_some.mp hg0
  have hl9 : e.platform.stackLimits (T.setVm s.vm).me = e.platform.stackLimits s.me := X.limits
  have hb9 : (T.setVm s.vm).me.stackBytes = s.me.stackBytes := X.bytes
  refine ⟨X.admits, X.cas, X.clock, hF, ?_, X.hears, X.method, X.code, X.here, X.tail, X.warmed, ?_, ?_, ?_⟩
  · have h := X.room
    have hU : ((T.setVm s.vm).setFrames (.invoking m args :: below)).localsInUse = s.localsInUse := by
      rw [State.localsInUse_invoking hF (meth := meth) (c := c) X.method X.code, State.localsInUse_invoking X.frames X.method X.code]
    simp only [State.hasRoom, Bool.and_eq_true, decide_eq_true_eq] at h ⊢
    obtain ⟨⟨⟨⟨h1, h2, h3, h4, h5, h6⟩, h7⟩, h8⟩, h9⟩ := h
    rw [X.frames, List.length_cons] at h2 h3
    have q1 := X.heapSize
    have q2 := X.used
    simp only [hF, hU, List.length_cons, State.stackLimits_setFrames, State.stackBytes_setFrames, hl9, hb9]
    refine ⟨⟨⟨⟨by omega, by omega, by omega, by omega, by omega, h6⟩, ?_⟩, ?_⟩, X.book⟩
    · show T.heap.size + R'.cells ≤ e.platform.maxCells
      omega
    · show T.slotsUsed + R'.slots ≤ e.platform.maxSlots
      omega
  · rw [State.stackLimits_setFrames]; rfl
  · rw [State.stackBytes_setFrames]; rfl
  · refine ⟨?_, Nat.le_refl _, Nat.le_refl _, ?_, ?_, fun a c9 h9 => ⟨c9, h9, rfl, rfl, fun _ _ => rfl⟩⟩
    · obtain ⟨t, ht, -⟩ := State.frames_cons hr
      show T.setVm s.vm = { ((T.setVm s.vm).setFrames (.invoking m args :: below)).setFrames (T.setVm s.vm).frames with heap := T.heap, slotsUsed := T.slotsUsed }
      rw [State.setFrames_setFrames, State.setFrames_self ht]
      rfl
    · show T.slotsUsed = T.slotsUsed + ((T.heap.toList.drop T.heap.size).map (·.slots.size)).sum
      rw [List.drop_eq_nil_of_le (Nat.le_of_eq Array.length_toList)]
      rfl
    · show ((T.heap.toList.drop T.heap.size).map (·.slots.size)).sum ≤ 0
      rw [List.drop_eq_nil_of_le (Nat.le_of_eq Array.length_toList)]
      exact Nat.le_refl _
/-- 'throw new E()': new; dup; invokespecial; athrow -/
theorem vx_throw0 {cc : ByteArray} {pc : Nat} (hexec : p.tables.exec = Jvm.exec) (hb : c.code = cc) (hl : l.stackTraces = false) {own cls : String} {names : List String} {ik ic mc ms : Nat} {A : Nat → Prop}
    (hown : s.vm.findClass own = some m.cls) (hcls : Bundle.fit cls = true) (hnames : ∀ n ∈ names, Bundle.fit n = true)
    (hk : (Cond.classLink own ik cls).before args s = true) (hini : (Cond.initialized cls).before args s = true) (hat : ∀ w ∈ vx_at0 own ic cls names, w.before args s = true)
    (hgood : ∀ w ∈ Cond.classLink own ik cls :: Cond.initialized cls :: vx_at0 own ic cls names, vx_ot w = true)
    (hU : vx_Zq Bundle.tN "UNASSIGNED_STACK" Bundle.steD A s s.heap) (hN : vx_Zq Bundle.tN "SUPPRESSED_SENTINEL" Bundle.listD A s s.heap) (hS : va_S A s.heap H locs) (hsize : ls.size = c.maxLocals)
    (d0 : decode cc pc = .ok (.new ik, 3)) (d3 : decode cc (pc + 3) = .ok (.dup, 1)) (d4 : decode cc (pc + 4) = .ok (.invokespecial ic, 3)) (d7 : decode cc (pc + 7) = .ok (.athrow, 1))
    (hout : ∀ x ∈ c.exceptionTable.toList, covers x (pc + 7) = false)
    (hRframes : names.length + 3 < R.frames) (hRlocals : (rest.map fun v => v.category).sum + (13 * (names.length + 1) + 42) ≤ R.locals) (hRcells : cells + 1 ≤ R.cells) (hRslots : slots + 6 ≤ R.slots) (hlocks : meth.locks = false)
    (hx : ∀ t : State, s.vm.Alike t.vm → H.size ≤ t.heap.size → (∀ q : Nat, q < H.size → t.heap[q]? = H[q]?) → XC cls s t)
    (hf : ∀ z ∈ locs, free z.base) (hc : cells + 1 ≤ mc) (hs : slots + 6 ≤ ms) :
    W p l e R s m args below meth c H locs cells slots (vx_MQ below Qc XC args s mc ms free) (F0 m pc ls rest) := by
  intro T hT X
  have htr : e.platform.stackTraces = false := (show e.platform.stackTraces = l.stackTraces by rw [X.admits.platform]).trans hl
  have Y := vx_rebase X (R' := { frames := R.frames, locals := R.locals, cells := 1, slots := 6 }) (Nat.le_refl _) (Nat.le_refl _) hRcells hRslots
  obtain ⟨s', hA⟩ : ∃ z, z = (T.setVm s.vm).setFrames (.invoking m args :: below) := ⟨_, rfl⟩
  rw [← hA] at Y
  have hvm : s'.vm = s.vm := by rw [hA]; rfl
  have hhp : s'.heap = H := by rw [hA]; exact hT
  have hW0 : s.WarmedH s'.vm := by rw [hvm]; exact State.WarmedH.refl s
  have hat' : ∀ w ∈ vx_at0 own ic cls names, w.before args s' = true := fun w hw => vx_ot_at hW0 hvm.symm (hgood w (List.mem_cons_of_mem _ (List.mem_cons_of_mem _ hw))) (hat w hw)
  have hk' : (Cond.classLink own ik cls).before args s' = true := vx_ot_at hW0 hvm.symm (hgood _ List.mem_cons_self) hk
  have hini' : (Cond.initialized cls).before args s' = true := vx_ot_at hW0 hvm.symm (hgood _ (List.mem_cons_of_mem _ List.mem_cons_self)) hini
  have hU' : vx_Zq Bundle.tN "UNASSIGNED_STACK" Bundle.steD A s' s'.heap := by rw [hhp]; exact vx_Zq.moved hW0.alike (hU.kept hS.2.1)
  have hN' : vx_Zq Bundle.tN "SUPPRESSED_SENTINEL" Bundle.listD A s' s'.heap := by rw [hhp]; exact vx_Zq.moved hW0.alike (hN.kept hS.2.1)
  have h : ∀ w ∈ Bundle.ownAtoms0 own ic cls names, w.before args s' = true := vx_own hat' (vx_isRefq hU'.1) (vx_isRefq hN'.1) hU'.2.word hN'.2.word
  have hown' : s'.vm.findClass own = some m.cls := by rw [hvm]; exact hown
  have hins : (Cond.instantiable cls 6).before args s' = true := h _ (by simp [Bundle.ownAtoms0])
  obtain ⟨vm₁, cX, kX, hfX, hkX, -, -, X₁, st1⟩ := Y.newCold hexec (own := own) (C := cls) (index := ik) (n := 6) hown' hk' hins hini'
    (g := F0 m pc ls rest) rfl (by rw [hb]; exact d0) (Nat.le_refl _) (Nat.le_refl _)
  generalize hT1 : (T.setVm vm₁).pushCell { cls := cX, slots := kX.instanceTypes.map defaultValue, vm := .none } = T1 at X₁ st1
  have hcat : (Value.ref T.heap.size).category = 1 := rfl
  have hcellA : T1.heap[T.heap.size]? = some (freshCell cX kX) := by rw [← hT1]; exact State.heap_pushCell_size _ _
  have d3' : decode c.code (pc + 3) = .ok (.dup, 1) := by rw [hb]; exact d3
  obtain ⟨U, hsteps, hrun, hend, hW, hsame, ce, hce, hO⟩ := X₁.ctorThrow0 hexec htr (own := own) (cls := cls) (names := names) (ic := ic) hown' hcls hnames h (fun x hx => nomatch hx) hfX hkX hcellA (by rw [hhp, hT]; exact Nat.le_refl _)
    (g := { method := m, pc := pc + 4, locals := ls, stack := .ref T.heap.size :: .ref T.heap.size :: rest, locked := none }) rfl hsize rfl rfl (rest := rest) rfl
    (by rw [hb]; exact d4) (by rw [hb]; exact d7) hout hRframes (by simp only [List.map_cons, List.sum_cons, hcat]; omega) hlocks
  obtain ⟨f1, f2⟩ := vx_frame hsame
  rw [hhp] at f1 f2
  have hWs : s.WarmedH U.vm := State.WarmedH.trans hW0 hW
  have hcl : s.vm.findClass cls = some ce.cls := by
    have h9 := hO.cls
    rw [hvm] at h9
    exact h9
  have hall : s.sameButNew ({ U with vm := s.vm } : State) locs mc ms := by
    subst hA
    obtain ⟨e1, e2⟩ := hsame
    rw [State.setFrames_setFrames] at e1
    have h2 : (T.setVm s.vm).sameButNew ({ U with vm := s.vm } : State) [] (0 + 1) (0 + 6) := ⟨e1, e2⟩
    have h3 := X.same.trans h2
    rw [List.append_nil] at h3
    exact h3.mono hc hs
  refine ⟨U, ?_, .threw T.heap.size, hrun, hend, Or.inr ⟨T.heap.size, rfl, cls, ce, locs, hx U hWs.alike f1 (fun q hq => f2 q hq (fun z hz => nomatch hz)), hce, hO.vm, hcl, hWs, hall, hf⟩⟩
  refine st1 _ ?_
  show Steps p.tables e below (T1.setTop { method := m, pc := pc + 3, locals := ls, stack := .ref T.heap.size :: rest, locked := none }) _
  jvm_step X₁.here [X₁.here.top, hexec, d3', Value.category]
  exact hsteps
/-- 'throw new E("text")': new; dup; ldc; invokespecial; athrow -/
theorem vx_throwS {cc : ByteArray} {pc : Nat} (hexec : p.tables.exec = Jvm.exec) (hb : c.code = cc) (hl : l.stackTraces = false) {own cls text : String} {names : List String} {ik is ic mc ms sa : Nat} {A : Nat → Prop}
    (hown : s.vm.findClass own = some m.cls) (hcls : Bundle.fit cls = true) (hnames : ∀ n ∈ names, Bundle.fit n = true)
    (hk : (Cond.classLink own ik cls).before args s = true) (hini : (Cond.initialized cls).before args s = true) (hstr : vk_R own is text sa s) (hat : ∀ w ∈ vx_atS own ic cls names, w.before args s = true)
    (hgood : ∀ w ∈ Cond.classLink own ik cls :: Cond.initialized cls :: vx_atS own ic cls names, vx_ot w = true)
    (hU : vx_Zq Bundle.tN "UNASSIGNED_STACK" Bundle.steD A s s.heap) (hN : vx_Zq Bundle.tN "SUPPRESSED_SENTINEL" Bundle.listD A s s.heap) (hS : va_S A s.heap H locs) (hsize : ls.size = c.maxLocals)
    (d0 : decode cc pc = .ok (.new ik, 3)) (d3 : decode cc (pc + 3) = .ok (.dup, 1)) (d4 : decode cc (pc + 4) = .ok (.ldc is, 2)) (d6 : decode cc (pc + 6) = .ok (.invokespecial ic, 3)) (d9 : decode cc (pc + 9) = .ok (.athrow, 1))
    (hout : ∀ x ∈ c.exceptionTable.toList, covers x (pc + 9) = false)
    (hRframes : names.length + 3 < R.frames) (hRlocals : (rest.map fun v => v.category).sum + (13 * (names.length + 1) + 43) ≤ R.locals) (hRcells : cells + 1 ≤ R.cells) (hRslots : slots + 6 ≤ R.slots) (hlocks : meth.locks = false)
    (hx : ∀ t : State, s.vm.Alike t.vm → H.size ≤ t.heap.size → (∀ q : Nat, q < H.size → t.heap[q]? = H[q]?) → XC cls s t)
    (hf : ∀ z ∈ locs, free z.base) (hc : cells + 1 ≤ mc) (hs : slots + 6 ≤ ms) :
    W p l e R s m args below meth c H locs cells slots (vx_MQ below Qc XC args s mc ms free) (F0 m pc ls rest) := by
  intro T hT X
  have htr : e.platform.stackTraces = false := (show e.platform.stackTraces = l.stackTraces by rw [X.admits.platform]).trans hl
  have Y := vx_rebase X (R' := { frames := R.frames, locals := R.locals, cells := 1, slots := 6 }) (Nat.le_refl _) (Nat.le_refl _) hRcells hRslots
  obtain ⟨s', hA⟩ : ∃ z, z = (T.setVm s.vm).setFrames (.invoking m args :: below) := ⟨_, rfl⟩
  rw [← hA] at Y
  have hvm : s'.vm = s.vm := by rw [hA]; rfl
  have hhp : s'.heap = H := by rw [hA]; exact hT
  have hW0 : s.WarmedH s'.vm := by rw [hvm]; exact State.WarmedH.refl s
  have hat' : ∀ w ∈ vx_atS own ic cls names, w.before args s' = true := fun w hw => vx_ot_at hW0 hvm.symm (hgood w (List.mem_cons_of_mem _ (List.mem_cons_of_mem _ hw))) (hat w hw)
  have hk' : (Cond.classLink own ik cls).before args s' = true := vx_ot_at hW0 hvm.symm (hgood _ List.mem_cons_self) hk
  have hini' : (Cond.initialized cls).before args s' = true := vx_ot_at hW0 hvm.symm (hgood _ (List.mem_cons_of_mem _ List.mem_cons_self)) hini
  have hU' : vx_Zq Bundle.tN "UNASSIGNED_STACK" Bundle.steD A s' s'.heap := by rw [hhp]; exact vx_Zq.moved hW0.alike (hU.kept hS.2.1)
  have hN' : vx_Zq Bundle.tN "SUPPRESSED_SENTINEL" Bundle.listD A s' s'.heap := by rw [hhp]; exact vx_Zq.moved hW0.alike (hN.kept hS.2.1)
  have h : ∀ w ∈ Bundle.ownAtoms own ic cls names, w.before args s' = true := vx_own hat' (vx_isRefq hU'.1) (vx_isRefq hN'.1) hU'.2.word hN'.2.word
  have hown' : s'.vm.findClass own = some m.cls := by rw [hvm]; exact hown
  have hins : (Cond.instantiable cls 6).before args s' = true := h _ (by simp [Bundle.ownAtoms])
  obtain ⟨vm₁, cX, kX, hfX, hkX, -, -, X₁, st1⟩ := Y.newCold hexec (own := own) (C := cls) (index := ik) (n := 6) hown' hk' hins hini'
    (g := F0 m pc ls rest) rfl (by rw [hb]; exact d0) (Nat.le_refl _) (Nat.le_refl _)
  generalize hT1 : (T.setVm vm₁).pushCell { cls := cX, slots := kX.instanceTypes.map defaultValue, vm := .none } = T1 at X₁ st1
  have hcat : (Value.ref T.heap.size).category = 1 := rfl
  have hcellA : T1.heap[T.heap.size]? = some (freshCell cX kX) := by rw [← hT1]; exact State.heap_pushCell_size _ _
  have d3' : decode c.code (pc + 3) = .ok (.dup, 1) := by rw [hb]; exact d3
  have d4' : decode c.code (pc + 4) = .ok (.ldc is, 2) := by rw [hb]; exact d4
  have hstr' : vk_R own is text sa s' := vk_R.warm hW0 hstr
  obtain ⟨U, hsteps, hrun, hend, hW, hsame, ce, hce, hO⟩ := X₁.ctorThrowS hexec htr (own := own) (cls := cls) (names := names) (ic := ic) hown' hcls hnames h (fun x hx => nomatch hx) hfX hkX hcellA (by rw [hhp, hT]; exact Nat.le_refl _) (msg := .ref sa) rfl
    (g := { method := m, pc := pc + 6, locals := ls, stack := .ref sa :: .ref T.heap.size :: .ref T.heap.size :: rest, locked := none }) rfl hsize rfl rfl (rest := rest) rfl
    (by rw [hb]; exact d6) (by rw [hb]; exact d9) hout hRframes (by simp only [List.map_cons, List.sum_cons, hcat]; omega) hlocks
  obtain ⟨f1, f2⟩ := vx_frame hsame
  rw [hhp] at f1 f2
  have hWs : s.WarmedH U.vm := State.WarmedH.trans hW0 hW
  have hcl : s.vm.findClass cls = some ce.cls := by
    have h9 := hO.cls
    rw [hvm] at h9
    exact h9
  have hall : s.sameButNew ({ U with vm := s.vm } : State) locs mc ms := by
    subst hA
    obtain ⟨e1, e2⟩ := hsame
    rw [State.setFrames_setFrames] at e1
    have h2 : (T.setVm s.vm).sameButNew ({ U with vm := s.vm } : State) [] (0 + 1) (0 + 6) := ⟨e1, e2⟩
    have h3 := X.same.trans h2
    rw [List.append_nil] at h3
    exact h3.mono hc hs
  refine ⟨U, ?_, .threw T.heap.size, hrun, hend, Or.inr ⟨T.heap.size, rfl, cls, ce, locs, hx U hWs.alike f1 (fun q hq => f2 q hq (fun z hz => nomatch hz)), hce, hO.vm, hcl, hWs, hall, hf⟩⟩
  refine st1 _ ?_
  show Steps p.tables e below (T1.setTop { method := m, pc := pc + 3, locals := ls, stack := .ref T.heap.size :: rest, locked := none }) _
  jvm_step X₁.here [X₁.here.top, hexec, d3', Value.category]
  exact X₁.ldcString hexec (own := own) (text := text) (index := is) (a := sa) hown' hstr'.1 hstr'.2
    (g := { method := m, pc := pc + 4, locals := ls, stack := .ref T.heap.size :: .ref T.heap.size :: rest, locked := none }) rfl d4' _ hsteps
/-- 'throw new E("text")', the text by a wide index -/
theorem vx_throwSW {cc : ByteArray} {pc : Nat} (hexec : p.tables.exec = Jvm.exec) (hb : c.code = cc) (hl : l.stackTraces = false) {own cls text : String} {names : List String} {ik is ic mc ms sa : Nat} {A : Nat → Prop}
    (hown : s.vm.findClass own = some m.cls) (hcls : Bundle.fit cls = true) (hnames : ∀ n ∈ names, Bundle.fit n = true)
    (hk : (Cond.classLink own ik cls).before args s = true) (hini : (Cond.initialized cls).before args s = true) (hstr : vk_R own is text sa s) (hat : ∀ w ∈ vx_atS own ic cls names, w.before args s = true)
    (hgood : ∀ w ∈ Cond.classLink own ik cls :: Cond.initialized cls :: vx_atS own ic cls names, vx_ot w = true)
    (hU : vx_Zq Bundle.tN "UNASSIGNED_STACK" Bundle.steD A s s.heap) (hN : vx_Zq Bundle.tN "SUPPRESSED_SENTINEL" Bundle.listD A s s.heap) (hS : va_S A s.heap H locs) (hsize : ls.size = c.maxLocals)
    (d0 : decode cc pc = .ok (.new ik, 3)) (d3 : decode cc (pc + 3) = .ok (.dup, 1)) (d4 : decode cc (pc + 4) = .ok (.ldc_w is, 3)) (d7 : decode cc (pc + 7) = .ok (.invokespecial ic, 3)) (d10 : decode cc (pc + 10) = .ok (.athrow, 1))
    (hout : ∀ x ∈ c.exceptionTable.toList, covers x (pc + 10) = false)
    (hRframes : names.length + 3 < R.frames) (hRlocals : (rest.map fun v => v.category).sum + (13 * (names.length + 1) + 43) ≤ R.locals) (hRcells : cells + 1 ≤ R.cells) (hRslots : slots + 6 ≤ R.slots) (hlocks : meth.locks = false)
    (hx : ∀ t : State, s.vm.Alike t.vm → H.size ≤ t.heap.size → (∀ q : Nat, q < H.size → t.heap[q]? = H[q]?) → XC cls s t)
    (hf : ∀ z ∈ locs, free z.base) (hc : cells + 1 ≤ mc) (hs : slots + 6 ≤ ms) :
    W p l e R s m args below meth c H locs cells slots (vx_MQ below Qc XC args s mc ms free) (F0 m pc ls rest) := by
  intro T hT X
  have htr : e.platform.stackTraces = false := (show e.platform.stackTraces = l.stackTraces by rw [X.admits.platform]).trans hl
  have Y := vx_rebase X (R' := { frames := R.frames, locals := R.locals, cells := 1, slots := 6 }) (Nat.le_refl _) (Nat.le_refl _) hRcells hRslots
  obtain ⟨s', hA⟩ : ∃ z, z = (T.setVm s.vm).setFrames (.invoking m args :: below) := ⟨_, rfl⟩
  rw [← hA] at Y
  have hvm : s'.vm = s.vm := by rw [hA]; rfl
  have hhp : s'.heap = H := by rw [hA]; exact hT
  have hW0 : s.WarmedH s'.vm := by rw [hvm]; exact State.WarmedH.refl s
  have hat' : ∀ w ∈ vx_atS own ic cls names, w.before args s' = true := fun w hw => vx_ot_at hW0 hvm.symm (hgood w (List.mem_cons_of_mem _ (List.mem_cons_of_mem _ hw))) (hat w hw)
  have hk' : (Cond.classLink own ik cls).before args s' = true := vx_ot_at hW0 hvm.symm (hgood _ List.mem_cons_self) hk
  have hini' : (Cond.initialized cls).before args s' = true := vx_ot_at hW0 hvm.symm (hgood _ (List.mem_cons_of_mem _ List.mem_cons_self)) hini
  have hU' : vx_Zq Bundle.tN "UNASSIGNED_STACK" Bundle.steD A s' s'.heap := by rw [hhp]; exact vx_Zq.moved hW0.alike (hU.kept hS.2.1)
  have hN' : vx_Zq Bundle.tN "SUPPRESSED_SENTINEL" Bundle.listD A s' s'.heap := by rw [hhp]; exact vx_Zq.moved hW0.alike (hN.kept hS.2.1)
  have h : ∀ w ∈ Bundle.ownAtoms own ic cls names, w.before args s' = true := vx_own hat' (vx_isRefq hU'.1) (vx_isRefq hN'.1) hU'.2.word hN'.2.word
  have hown' : s'.vm.findClass own = some m.cls := by rw [hvm]; exact hown
  have hins : (Cond.instantiable cls 6).before args s' = true := h _ (by simp [Bundle.ownAtoms])
  obtain ⟨vm₁, cX, kX, hfX, hkX, -, -, X₁, st1⟩ := Y.newCold hexec (own := own) (C := cls) (index := ik) (n := 6) hown' hk' hins hini'
    (g := F0 m pc ls rest) rfl (by rw [hb]; exact d0) (Nat.le_refl _) (Nat.le_refl _)
  generalize hT1 : (T.setVm vm₁).pushCell { cls := cX, slots := kX.instanceTypes.map defaultValue, vm := .none } = T1 at X₁ st1
  have hcat : (Value.ref T.heap.size).category = 1 := rfl
  have hcellA : T1.heap[T.heap.size]? = some (freshCell cX kX) := by rw [← hT1]; exact State.heap_pushCell_size _ _
  have d3' : decode c.code (pc + 3) = .ok (.dup, 1) := by rw [hb]; exact d3
  have d4' : decode c.code (pc + 4) = .ok (.ldc_w is, 3) := by rw [hb]; exact d4
  have hstr' : vk_R own is text sa s' := vk_R.warm hW0 hstr
  obtain ⟨U, hsteps, hrun, hend, hW, hsame, ce, hce, hO⟩ := X₁.ctorThrowS hexec htr (own := own) (cls := cls) (names := names) (ic := ic) hown' hcls hnames h (fun x hx => nomatch hx) hfX hkX hcellA (by rw [hhp, hT]; exact Nat.le_refl _) (msg := .ref sa) rfl
    (g := { method := m, pc := pc + 7, locals := ls, stack := .ref sa :: .ref T.heap.size :: .ref T.heap.size :: rest, locked := none }) rfl hsize rfl rfl (rest := rest) rfl
    (by rw [hb]; exact d7) (by rw [hb]; exact d10) hout hRframes (by simp only [List.map_cons, List.sum_cons, hcat]; omega) hlocks
  obtain ⟨f1, f2⟩ := vx_frame hsame
  rw [hhp] at f1 f2
  have hWs : s.WarmedH U.vm := State.WarmedH.trans hW0 hW
  have hcl : s.vm.findClass cls = some ce.cls := by
    have h9 := hO.cls
    rw [hvm] at h9
    exact h9
  have hall : s.sameButNew ({ U with vm := s.vm } : State) locs mc ms := by
    subst hA
    obtain ⟨e1, e2⟩ := hsame
    rw [State.setFrames_setFrames] at e1
    have h2 : (T.setVm s.vm).sameButNew ({ U with vm := s.vm } : State) [] (0 + 1) (0 + 6) := ⟨e1, e2⟩
    have h3 := X.same.trans h2
    rw [List.append_nil] at h3
    exact h3.mono hc hs
  refine ⟨U, ?_, .threw T.heap.size, hrun, hend, Or.inr ⟨T.heap.size, rfl, cls, ce, locs, hx U hWs.alike f1 (fun q hq => f2 q hq (fun z hz => nomatch hz)), hce, hO.vm, hcl, hWs, hall, hf⟩⟩
  refine st1 _ ?_
  show Steps p.tables e below (T1.setTop { method := m, pc := pc + 3, locals := ls, stack := .ref T.heap.size :: rest, locked := none }) _
  jvm_step X₁.here [X₁.here.top, hexec, d3', Value.category]
  exact X₁.ldcStringW hexec (own := own) (text := text) (index := is) (a := sa) hown' hstr'.1 hstr'.2
    (g := { method := m, pc := pc + 4, locals := ls, stack := .ref T.heap.size :: .ref T.heap.size :: rest, locked := none }) rfl d4' _ hsteps
end Ends
section Bodies
variable {l : Launch}
theorem vx_ofW {y : MethodName} {ws ws' : List Cond} {rm : Room} {Pc : Array Value → State → Prop} {Qc : Array Value → State → Outcome → State → Prop} {XC : String → State → State → Prop} {mc ms : Nat} {free : Addr → Prop} {cc : ByteArray} {maxL : Nat} {ret : Option FieldType}
    (hy : plainName y.cls = true) (hw : ws = Cond.code y cc maxL ret :: ws')
    (body : ∀ p e s m args below meth c s₁, BodyLoose p l y (headSpec ws rm) cc maxL ret e s m args below meth c s₁ → c.maxLocals = maxL → (∀ x ∈ c.exceptionTable.toList, False) → Pc args s →
      W p l e (headSpec ws rm).room s m args below meth c s.heap [] 0 0 (vx_MQ below Qc XC args s mc ms free) (entryFrame m args maxL)) : vx_Met l y ws rm Pc Qc XC mc ms free := by
  refine MetFree.of_bodyS (code := cc) (maxLocals := maxL) (ret := ret) hy ?_ ?_
  · intro args s m h hn
    obtain ⟨meth, c, h1, h2, h3, h4, h5, h6, -, -⟩ := Cond.code_spec hn (atoms_spec (ws := ws) h _ (by rw [hw]; exact List.mem_cons_self))
    exact ⟨meth, c, h1, h2, h3, h4, h5, h6⟩
  · intro p e s m args below meth c s₁ B hml hP _
    have hh0 : s₁.heap = s.heap := by rw [B.state]; rfl
    have ht : ∀ x ∈ c.exceptionTable.toList, False := by
      obtain ⟨meth9, c9, h1, h2, -, -, -, -, h7, -⟩ := Cond.code_spec B.named (atoms_spec (ws := ws) B.pre _ (by rw [hw]; exact List.mem_cons_self))
      cases Option.some.inj (h1.symm.trans B.method)
      cases Option.some.inj (h2.symm.trans (Stand.of_body B).code)
      intro x hx
      rw [Array.isEmpty_iff.mp h7] at hx
      cases hx
    obtain ⟨t, a1, o, b1, b2, b3⟩ := body p e s m args below meth c s₁ B hml ht hP s₁ hh0 (Stand.of_body B)
    exact ⟨t, o, a1, b1, b2, b3⟩
/-- the table of a body with handlers -/
theorem vx_table {p : Program} {x y : MethodName} {S : Spec} {cc bytes : ByteArray} {maxL maxL' : Nat} {ret ret' : Option FieldType} {e : Env} {s s₁ : State} {m : MethodId} {args : Array Value} {below : List Frame} {meth : Method} {c : Code} {hh : List (Nat × Nat × Nat × Nat)}
    (B : BodyLoose p l y S cc maxL ret e s m args below meth c s₁) (h : (Cond.codeWith y bytes maxL' ret' hh).before args s = true) : c.exceptionTable.toList = tableOf hh := by
  obtain ⟨m9, meth9, c9, hn9, h1, h2, -, -, h6, -⟩ := Cond.codeWith_spec h
  cases Option.some.inj (hn9.symm.trans B.named)
  cases Option.some.inj (h1.symm.trans B.method)
  cases Option.some.inj (h2.symm.trans (Stand.of_body B).code)
  rw [← h6, table_eq]
end Bodies
end VXA
/-! ===== END ===== -/
/-! ===== BEGIN a static call of a method with an exception table ===== -/
section VXS
variable {p : Program} {l : Launch} {e : Env} {R : Room} {s : State} {m : MethodId} {args : Array Value} {below : List Frame} {meth : Method} {c : Code} {T : State} {H : Heap} {locs : List Loc} {cells slots : Nat}
abbrev vx_CSW (R : Room) (s : State) (args : Array Value) (own : String) (index : Nat) (y : MethodName) (bytes : ByteArray) (maxL : Nat) (ret : Option FieldType) (hh : List (Nat × Nat × Nat × Nat)) (ws : List Cond) (rm : Room) (mc ms n : Nat) : Prop :=
  (rm.cells = mc ∧ rm.slots = ms ∧ rm.frames + 1 ≤ R.frames ∧ 8 + (maxL + 11) + rm.locals ≤ R.locals ∧ (∀ w ∈ ws, ∀ (a' : Array Value) (U : State), s.WarmedH U.vm → w.before a' U = true) ∧ Cond.codeWith y bytes maxL ret hh ∈ ws) ∧
  (Cond.codeWith y bytes maxL ret hh).before args s = true ∧ (Cond.initialized y.cls).before args s = true ∧ (y.cls ≠ "java/lang/invoke/MethodHandle" ∧ y.cls ≠ "java/lang/invoke/VarHandle") ∧
  (∀ sig, parseMethodDescriptor y.desc = some sig → n = sig.parameters.length) ∧ (Cond.methodLink own index y).before args s = true ∧ (Cond.static y).before args s = true
theorem vx_cwSW {own : String} {index maxL mc ms : Nat} {y : MethodName} {bytes : ByteArray} {ret : Option FieldType} {hh : List (Nat × Nat × Nat × Nat)} {Ts ws ws' : List Cond} {rm : Room} (n : Nat) (ht : ∀ w ∈ Ts, w.before args s = true) (hT : GoodIn Ts (va_wsS own index y ws)) (hw : ws = Cond.codeWith y bytes maxL ret hh :: ws') (hrc : rm.cells = mc) (hrs : rm.slots = ms)
    (hd : y.cls ≠ "java/lang/invoke/MethodHandle" ∧ y.cls ≠ "java/lang/invoke/VarHandle" ∧ (parseMethodDescriptor y.desc).map (fun d => d.parameters.length) = some n) (hR : rm.frames + 1 ≤ R.frames ∧ 8 + (maxL + 11) + rm.locals ≤ R.locals) :
    vx_CSW R s args own index y bytes maxL ret hh ws rm mc ms n := by
  have ok : ∀ w ∈ va_wsS own index y ws, w.before args s = true := fun w h => ht w (hT w h).1
  have hG : GoodIn Ts ws := fun w h => hT w (by unfold va_wsS; exact List.mem_append_right _ h)
  have hc : Cond.codeWith y bytes maxL ret hh ∈ ws := by rw [hw]; exact List.mem_cons_self
  refine ⟨⟨hrc, hrs, hR.1, hR.2, pay_in ht hG, hc⟩, ht _ (hG _ hc).1, ok _ (by simp [va_wsS]), ⟨hd.1, hd.2.1⟩, fun sig h => ?_, ok _ (by simp [va_wsS]), ok _ (by simp [va_wsS])⟩
  have h2 := hd.2.2
  rw [h] at h2
  exact (Option.some.inj h2).symm
theorem vx_callSW (X : Stand p l e R s m args below meth c T locs cells slots) (hexec : p.tables.exec = Jvm.exec) {own : String} {index : Nat} {y : MethodName} {bytes : ByteArray} {maxL : Nat} {ret : Option FieldType} {hh : List (Nat × Nat × Nat × Nat)}
    (hown : s.vm.findClass own = some m.cls) (hlink : (Cond.methodLink own index y).before args s = true) (hstat : (Cond.static y).before args s = true) (hinit : (Cond.initialized y.cls).before args s = true)
    (hcode : (Cond.codeWith y bytes maxL ret hh).before args s = true) (hy : y.cls ≠ "java/lang/invoke/MethodHandle" ∧ y.cls ≠ "java/lang/invoke/VarHandle")
    {W9 : Nat} {Pre : Pt → Array Value → Prop} {Post : Pt → Array Value → Option Value → Pt → Prop} (hK : Back l R p e below s args y 3 W9 Pre Post)
    {g : JFrame} (hg : g.method = m) (hsize : g.locals.size = c.maxLocals) {argsL rest : List Value} (hlen : ∀ sig, parseMethodDescriptor y.desc = some sig → argsL.length = sig.parameters.length)
    (hstack : g.stack = argsL.reverse ++ rest) (hW : 2 * g.monitorRoom + (rest.map fun v => v.category).sum ≤ W9) (hdg : decode c.code g.pc = .ok (.invokestatic index, 3))
    (hpre : ∀ vm₁, s.WarmedH vm₁ → Pre ⟨T.setVm vm₁, locs, cells, slots⟩ argsL.toArray) :
    ∃ (v : Option Value) (vm₁ : Vm) (B : Pt), s.WarmedH vm₁ ∧ Stand p l e R s m args below meth c B.U B.locs B.cells B.slots ∧ Post ⟨T.setVm vm₁, locs, cells, slots⟩ argsL.toArray v B ∧
      ∀ target, Steps p.tables e below (B.U.setTop { g with pc := g.pc + 3, stack := v.toList ++ rest }) target → Steps p.tables e below (T.setTop g) target := by
  obtain ⟨mk, methM, cM, hnamed, hmethM, -, -, -, -, -, -, hsigM⟩ := Cond.codeWith_spec hcode
  have hstatic : methM.isStatic = true := Cond.static_spec hnamed hmethM hstat
  obtain ⟨kP, hkP, -⟩ := className_of_methodNamed hnamed
  have hinitP : kP.init = .initialized := Cond.initialized_spec (findClass_of_methodNamed hnamed) hkP hinit
  obtain ⟨vm₁, X₁, hstep₁⟩ := X.invokestatic hexec hown hlink hnamed hmethM hstatic hkP hinitP hy (g := g) hg (argsL := argsL) (rest := rest) (hlen _ hsigM) hstack hdg
  obtain ⟨v, B, X', hpost, hsteps⟩ := hK m meth c ⟨T.setVm vm₁, locs, cells, slots⟩ { g with stack := rest } (.invokestatic index) mk argsL.toArray X₁ hg hsize hdg hW (X₁.named hnamed) (hpre vm₁ X₁.warmed)
  exact ⟨v, vm₁, B, X₁.warmed, X', hpost, fun target h => hstep₁ _ fun acts => by rw [doInvoke_state]; exact hsteps.trans h⟩
theorem vx_runSW {y : MethodName} {bytes cc : ByteArray} {maxL nL mc ms n index : Nat} {ret : Option FieldType} {hh : List (Nat × Nat × Nat × Nat)} {ws : List Cond} {rm : Room} {Pc : Array Value → State → Prop} {Qc : Array Value → State → Outcome → State → Prop} {free : Addr → Prop} {Ts : List Cond} {own : String} {As rest : List Value} {g : JFrame}
    (S : CallFix p m c cc nL s args Ts own) (hM : Met l y ws rm Pc Qc mc ms free) (cw : vx_CSW R s args own index y bytes maxL ret hh ws rm mc ms n) (hp : PreS s H Pc As)
    (hg : g.method = m) (hn : As.length = n) (hsize : g.locals.size = nL) (hstack : g.stack = As.reverse ++ rest) (hW : 2 * g.monitorRoom + (rest.map fun v => v.category).sum ≤ 8) (hdg : decode cc g.pc = .ok (.invokestatic index, 3)) (hf : cells + mc ≤ R.cells ∧ slots + ms ≤ R.slots) :
    va_Run p l e R s m args below meth c H locs cells slots mc ms g rest (Qc As.toArray) (free) := by
  obtain ⟨⟨hrc, hrs, hfr, hlo, hws, hcw⟩, hcode, hini, hy, hlen, hl, hstt⟩ := cw
  have hK : Back l R p e below s args y 3 8 (PreOf R mc ms Pc) (PostOf Qc mc ms free) := va_backW (hh := hh) (bytes := bytes) (maxL := maxL) (ret := ret) hM hp.1 hrc hrs hfr hlo hws hcw (fun a' U hW => word_at hW (Or.inl (by first | rfl | simp [Cond.onTables, Cond.keeps, Cond.steady])) hini)
  obtain ⟨hx, hb, hml, ho, -⟩ := S
  intro T hT X
  obtain ⟨v, vm₁, ⟨U', l2, c2, s2⟩, hW₁, X', ⟨g', mk, t, L, e1, e2, hq, h1, hL, h2, h3⟩, st⟩ := vx_callSW X hx (hh := hh) (bytes := bytes) (maxL := maxL) (ret := ret) ho hl hstt hini hcode hy hK hg (hsize.trans hml.symm) (argsL := As) (rest := rest) (fun sig h => hn.trans (hlen sig h)) hstack hW (by rw [hb]; exact hdg)
    (fun vm₁ hW₁ => ⟨hf.1, hf.2, hp.2 (T.setVm vm₁) hT hW₁⟩)
  dsimp only [Pt.U, Pt.locs, Pt.cells, Pt.slots] at X' e1 e2 h1 h2 h3 st
  subst h1; subst h2; subst h3
  exact ⟨v, (T.setVm vm₁).calling g' mk As.toArray, t, U', L, hT, X', hL, e1, e2, hq, st⟩
/-- not caught here, past rows that name other classes: it goes on to the caller -/
theorem vx_outP {p : Program} {l : Launch} {e : Env} {R : Room} {s : State} {m : MethodId} {args : Array Value} {below : List Frame} {meth : Method} {c : Code} {H : Heap} {locs : List Loc} {cells slots : Nat} {free : Addr → Prop} {ls : Array Slot} {rest : List Value} {Qc : Array Value → State → Outcome → State → Prop} {XC : String → State → State → Prop}
    {pc : Nat} {own E : String} {ce : Cell} {q : Addr} {mc ms : Nat} (hown : s.vm.findClass own = some m.cls) (hlocks : meth.locks = false)
    (hpass : ∀ z ∈ c.exceptionTable.toList, covers z pc = false ∨ (z.catchType ≠ 0 ∧ ∃ nm : String, (Cond.classLink own z.catchType nm).before args s = true ∧ va_Nc E nm s)) (hcell : H[q]? = some ce) (hv : ce.vm = .none) (hcl : s.vm.findClass E = some ce.cls)
    (hx : ∀ t : State, t.heap = H → s.vm.Alike t.vm → XC E s t) (hf : ∀ z ∈ locs, free z.base) (hc : cells ≤ mc) (hs : slots ≤ ms) :
    vx_W p l e R s m args below meth c H locs cells slots (vx_MQ below Qc XC args s mc ms free) (F0 m pc ls rest) q := by
  intro T hT X
  have hpl : e.platform.magicAccessors = ({} : Platform).magicAccessors := by rw [X.admits.platform]
  obtain ⟨vm', hW', X', st⟩ := X.outThrough hlocks q (g := F0 m pc ls rest) rfl rfl rfl (cell := ce) (by rw [hT]; exact hcell) (by rw [hv]; rfl)
    (by obtain ⟨k9, h9, -⟩ := Vm.findClass_spec hcl; exact ⟨k9, h9⟩) (fun z hz => by
      rcases hpass z hz with h | ⟨hz0, nm, hl1, hn1⟩
      · exact Or.inl h
      · obtain ⟨c6, hc6, hcl6⟩ := Cond.classLink_spec hown hl1 e.platform hpl
        obtain ⟨a8, b8, h1, h2, h3⟩ := hn1
        cases Option.some.inj (h1.symm.trans hcl)
        cases Option.some.inj (h2.symm.trans hc6)
        exact Or.inr ⟨hz0, _, hcl6, h3⟩)
  obtain ⟨g₀, hfr⟩ := X'.frames_eq
  have hcell9 : ((T.setVm vm').setFrames (.throwing q :: below)).heap[q]? = some ce := by
    show T.heap[q]? = some ce
    rw [hT]; exact hcell
  have hend : Ended ((T.setVm vm').setFrames (.throwing q :: below)) below (.threw q) := State.frames_setFrames _ (State.cur_lt_of_frames hfr)
  refine ⟨(T.setVm vm').setFrames (.throwing q :: below), ?_, .threw q, X'.here.running, hend, Or.inr ⟨q, rfl, E, ce, locs, hx _ hT (X'.ends _).1.alike, hcell9, hv, hcl, (X'.ends _).1, (X'.ends _).2.mono hc hs, hf⟩⟩
  rw [X.pushThrowing_eq]
  exact st
/-- a thing of a world lies in the heap -/
theorem vx_lt {D : va_G} {cl : List vw_C} {ws : va_W} {H1 : Heap} (h : va_P D cl ws H1) {k : Nat} {q : Nat × va_E} (hk : ws[k]? = some q) : q.1 < H1.size := (h k q hk).lt
end VXS
/-! ===== END ===== -/
/-! ===== BEGIN methods with a table of their own: called by a name, returning or throwing ===== -/
section VXH
/-! vx_backW, vx_callVX, vx_callSX, vx_callVW, vx_runVW, vx_runVX, vx_runSX, vx_ofWH follow the same proofs as their sisters above (Free/Laws.lean, Shelf42/LK1.lean); vx_outP calls Shelf42/NT130.lean (outThrough). -/
section
variable {l : Launch} {R : Room} {p : Program} {e : Env} {below : List Frame} {s : State} {sargs : Array Value} {y : MethodName} {len W9 : Nat}
theorem vx_backW {ws : List Cond} {rm : Room} {Pc : Array Value → State → Prop} {Qc : Array Value → State → Outcome → State → Prop} {XC : String → State → State → Prop} {mc ms : Nat} {free : Addr → Prop} {bytes : ByteArray} {maxL : Nat} {ret : Option FieldType} {hh : List (Nat × Nat × Nat × Nat)}
    (hM : vx_Met l y ws rm Pc Qc XC mc ms free) (hblind : FrameBlind Pc) (hrc : rm.cells = mc) (hrs : rm.slots = ms)
    (hframes : rm.frames + 1 ≤ R.frames) (hlocals : W9 + (maxL + 11) + rm.locals ≤ R.locals)
    (hws : ∀ w ∈ ws, ∀ a' U, s.WarmedH U.vm → w.before a' U = true) (hcode : Cond.codeWith y bytes maxL ret hh ∈ ws) (hinit : ∀ a' U, s.WarmedH U.vm → (Cond.initialized y.cls).before a' U = true) :
    vx_Back l R p e below s sargs y len W9 (PreOf R mc ms Pc) (PostOf Qc mc ms free) (vx_Post XC mc ms free) := by
  intro m meth c A g ig mk a X hg hsize hdg hW hn hp
  have h1 : (headSpec ws rm).pre.before a A.U = true := atoms_intro fun w hw => hws w hw _ _ X.warmed
  have h2 : (Cond.codeWith y bytes maxL ret hh).before a A.U = true := hws _ hcode _ _ X.warmed
  have h3 : (Cond.initialized y.cls).before a A.U = true := hinit _ _ X.warmed
  have h4 : A.cells + (headSpec ws rm).room.cells ≤ R.cells := by rw [show (headSpec ws rm).room.cells = mc from hrc]; exact hp.1
  have h5 : A.slots + (headSpec ws rm).room.slots ≤ R.slots := by rw [show (headSpec ws rm).room.slots = ms from hrs]; exact hp.2.1
  have hPc : Pc a (A.U.calling g mk a) := hblind _ _ _ _ hp.2.2
  obtain ⟨U, Ls, c0, s0⟩ := A
  dsimp only [Pt.U, Pt.locs, Pt.cells, Pt.slots] at h1 h2 h3 h4 h5 X hn hPc ⊢
  obtain ⟨m9, methY, cY, hn9, hmY, hcY, -, hlY, -⟩ := Cond.codeWith_spec h2
  cases Option.some.inj (hn9.symm.trans hn)
  obtain ⟨kY, hkY, -⟩ := className_of_methodNamed hn
  have hinitY : kY.init = .initialized := Cond.initialized_spec (findClass_of_methodNamed hn) hkY h3
  have h : At U g.method c below := by rw [hg]; exact X.here
  have hlocals9 : W9 + (maxL + 11) + (headSpec ws rm).room.locals ≤ R.locals := hlocals
  have happ : (headSpec ws rm).appliesLoose y e.platform (U.calling g mk a) = true :=
    Spec.appliesLoose_calling (g := g) h hdg hn hkY hinitY
      (X.room_calling (g := g) (R' := (headSpec ws rm).room) hsize hmY hcY hframes (by rw [hlY]; omega) h4 h5) h1
  obtain ⟨mid, hmid⟩ := h.above
  have hfr : (U.setTop g).frames = (.java g :: mid) ++ below := by rw [State.frames_setTop' g h.top, hmid]; rfl
  obtain ⟨o, s₂, hsteps, -, hend, hq⟩ := Steps.callFree hM p X.admits X.cas X.clock (acts := []) hfr happ hPc trivial
  have hq' : vx_Q Qc XC mc ms free a (U.calling g mk a) o s₂ := hq
  rw [State.frames_setTop' g h.top] at hend
  obtain ⟨g₀, hg0⟩ := Option.isSome_iff_exists.mp h.top
  obtain ⟨r, hr⟩ := State.topJava?_eq_some.mp hg0
  have hr' : (({ U with heap := s₂.heap, slotsUsed := s₂.slotsUsed } : State).setVm s₂.vm).frames = .java g₀ :: r := hr
  rcases hq' with ⟨hqc, L, hfe, hL⟩ | ⟨q, rfl, E, ce, L, hx, hce, hcv, hcl, hW₂, hsm, hL⟩
  · obtain ⟨⟨v, rfl⟩, hW₂, e2, q2, q3, q4, q5, q6⟩ := id hfe
    have e3 : s₂ = ({ (U.calling g mk a).setFrames s₂.frames with heap := s₂.heap, slotsUsed := s₂.slotsUsed } : State).setVm s₂.vm := by
      have : s₂ = ({ s₂ with vm := (U.calling g mk a).vm } : State).setVm s₂.vm := rfl
      rw [e2] at this
      exact this
    obtain ⟨c₂, i₂, len₂, hc₂, hd₂, hf₂⟩ := hend
    have hW' : U.WarmedH s₂.vm := hW₂
    have hcc : c₂ = c := by
      have h1 : s₂.code? g.method = U.code? g.method := by
        rw [State.code?_eq, State.code?_eq, hW'.alike.method?]
      exact Option.some.inj (hc₂.symm.trans (h1.trans h.code))
    subst hcc
    have hlen : len₂ = len := by rw [hdg] at hd₂; cases hd₂; rfl
    subst hlen
    have hs₂ : s₂ = (({ U with heap := s₂.heap, slotsUsed := s₂.slotsUsed } : State).setVm s₂.vm).setTop { g with pc := g.pc + len₂, stack := v.toList ++ g.stack } := by
      refine e3.trans ?_
      rw [hf₂, State.calling_eq h.top, State.setFrames_setFrames, State.setTop_of_frames _ hr', hr]
      rfl
    have hsame : U.sameButNew ({ U with heap := s₂.heap, slotsUsed := s₂.slotsUsed } : State) L mc ms := by
      refine ⟨?_, q2, q3, q4, q5, q6⟩
      obtain ⟨t, ht, -⟩ := State.frames_cons hr
      show ({ U with heap := s₂.heap, slotsUsed := s₂.slotsUsed } : State) = { U.setFrames U.frames with heap := s₂.heap, slotsUsed := s₂.slotsUsed }
      rw [State.setFrames_self ht]
    subst hg
    refine Or.inl ⟨v, ⟨(({ U with heap := s₂.heap, slotsUsed := s₂.slotsUsed } : State).setVm s₂.vm), Ls ++ L, c0 + mc, s0 + ms⟩,
      ⟨X.admits, X.cas, X.clock, X.frames, X.room, X.hears, X.method, X.code, (X.here.setHeapUsed s₂.heap s₂.slotsUsed).setVm hW'.alike, X.tail, State.WarmedH.trans X.warmed hW', X.limits, X.bytes, X.same.trans (hsame.setVm s.vm)⟩,
      ⟨g, mk, s₂, L, rfl, rfl, hqc, rfl, hL, rfl, rfl⟩, ?_⟩
    show Steps p.tables e below _ ((({ U with heap := s₂.heap, slotsUsed := s₂.slotsUsed } : State).setVm s₂.vm).setTop { g with pc := g.pc + len₂, stack := v.toList ++ g.stack })
    rw [← hs₂]
    exact hsteps
  · obtain ⟨e2, q2, q3, q4, q5, q6⟩ := id hsm
    have e3 : s₂ = ({ (U.calling g mk a).setFrames s₂.frames with heap := s₂.heap, slotsUsed := s₂.slotsUsed } : State).setVm s₂.vm := by
      have : s₂ = ({ s₂ with vm := (U.calling g mk a).vm } : State).setVm s₂.vm := rfl
      rw [e2] at this
      exact this
    have hf₂ : s₂.frames = .throwing q :: .java g :: U.frames.tail := hend
    have hW' : U.WarmedH s₂.vm := hW₂
    have hs₂ : s₂ = ((({ U with heap := s₂.heap, slotsUsed := s₂.slotsUsed } : State).setVm s₂.vm).setTop g).pushFrame (.throwing q) := by
      refine e3.trans ?_
      rw [hf₂, State.calling_eq h.top, State.setFrames_setFrames, State.pushFrame, State.frames_setTop _ hr', State.setTop_of_frames _ hr', State.setFrames_setFrames, hr]
      rfl
    have hsame : U.sameButNew ({ U with heap := s₂.heap, slotsUsed := s₂.slotsUsed } : State) L mc ms := by
      refine ⟨?_, q2, q3, q4, q5, q6⟩
      obtain ⟨t, ht, -⟩ := State.frames_cons hr
      show ({ U with heap := s₂.heap, slotsUsed := s₂.slotsUsed } : State) = { U.setFrames U.frames with heap := s₂.heap, slotsUsed := s₂.slotsUsed }
      rw [State.setFrames_self ht]
    subst hg
    refine Or.inr ⟨q, ⟨(({ U with heap := s₂.heap, slotsUsed := s₂.slotsUsed } : State).setVm s₂.vm), Ls ++ L, c0 + mc, s0 + ms⟩,
      ⟨X.admits, X.cas, X.clock, X.frames, X.room, X.hears, X.method, X.code, (X.here.setHeapUsed s₂.heap s₂.slotsUsed).setVm hW'.alike, X.tail, State.WarmedH.trans X.warmed hW', X.limits, X.bytes, X.same.trans (hsame.setVm s.vm)⟩,
      ⟨g, mk, s₂, L, E, ce, rfl, rfl, hx, hce, hcv, hcl, rfl, hL, rfl, rfl⟩, ?_⟩
    show Steps p.tables e below _ (((({ U with heap := s₂.heap, slotsUsed := s₂.slotsUsed } : State).setVm s₂.vm).setTop g).pushFrame (.throwing q))
    rw [← hs₂]
    exact hsteps
end
variable {p : Program} {l : Launch} {e : Env} {R : Room} {s : State} {m : MethodId} {args : Array Value} {below : List Frame} {meth : Method} {c : Code} {T : State} {H : Heap} {locs : List Loc} {cells slots : Nat}
theorem vx_callVX (X : Stand p l e R s m args below meth c T locs cells slots) (hexec : p.tables.exec = Jvm.exec) {own C : String} {index : Nat} {y : MethodName} {bytes : ByteArray} {maxL : Nat} {ret : Option FieldType} {hh : List (Nat × Nat × Nat × Nat)}
    (hown : s.vm.findClass own = some m.cls) (hlink : (Cond.methodLink own index y).before args s = true) (hinst : (Cond.instanceMethod y).before args s = true) (hsel : (Cond.selects C y y).before args s = true)
    (hcode : (Cond.codeWith y bytes maxL ret hh).before args s = true) (hy : y.cls ≠ "java/lang/invoke/MethodHandle" ∧ y.cls ≠ "java/lang/invoke/VarHandle")
    {W9 : Nat} {Pre : Pt → Array Value → Prop} {Post : Pt → Array Value → Option Value → Pt → Prop} {PostX : Pt → Array Value → Addr → Pt → Prop} (hK : vx_Back l R p e below s args y 3 W9 Pre Post PostX)
    {b : Addr} {cellB : Cell} (hcell : T.heap[b]? = some cellB) (hobj : cellB.vm.isStatics = false) (hcls : s.vm.findClass C = some cellB.cls)
    {g : JFrame} (hg : g.method = m) (hsize : g.locals.size = c.maxLocals) {argsL rest : List Value} (hlen : ∀ sig, parseMethodDescriptor y.desc = some sig → argsL.length = sig.parameters.length)
    (hstack : g.stack = argsL.reverse ++ .ref b :: rest) (hW : 2 * g.monitorRoom + (rest.map fun v => v.category).sum ≤ W9) (hdg : decode c.code g.pc = .ok (.invokevirtual index, 3))
    (hpre : ∀ vm₁, s.WarmedH vm₁ → Pre ⟨T.setVm vm₁, locs, cells, slots⟩ (Value.ref b :: argsL).toArray) :
    (∃ (v : Option Value) (vm₁ : Vm) (B : Pt), s.WarmedH vm₁ ∧ Stand p l e R s m args below meth c B.U B.locs B.cells B.slots ∧ Post ⟨T.setVm vm₁, locs, cells, slots⟩ (Value.ref b :: argsL).toArray v B ∧
      ∀ target, Steps p.tables e below (B.U.setTop { g with pc := g.pc + 3, stack := v.toList ++ rest }) target → Steps p.tables e below (T.setTop g) target) ∨
    (∃ (q : Addr) (vm₁ : Vm) (B : Pt), s.WarmedH vm₁ ∧ Stand p l e R s m args below meth c B.U B.locs B.cells B.slots ∧ PostX ⟨T.setVm vm₁, locs, cells, slots⟩ (Value.ref b :: argsL).toArray q B ∧
      Steps p.tables e below (T.setTop g) ((B.U.setTop { g with stack := rest }).pushFrame (.throwing q))) := by
  obtain ⟨mk, methM, hnamed, hmethM, hstM, habM⟩ := Cond.instanceMethod_spec hinst
  obtain ⟨m8, methM', cM, hn8, hmethM', -, -, -, -, -, -, hsigM⟩ := Cond.codeWith_spec hcode
  cases Option.some.inj (hn8.symm.trans hnamed)
  cases hmethM.symm.trans hmethM'
  obtain ⟨c2, r2, m2, q1, q2, q3, q4, kP, hkP, hkPi⟩ := Cond.selects_spec hsel
  cases hcls.symm.trans q1
  cases (State.methodFound?_of_named hnamed hy).symm.trans q2
  cases hnamed.symm.trans q3
  have hselP : selectMethod e.platform s.vm cellB.cls mk = .method mk := by rw [Launch.admits_selectMethod X.admits]; exact q4
  obtain ⟨vm₁, X₁, hstep₁⟩ := X.invokevirtual hexec hown hlink hnamed hmethM hstM hkP hkPi hy (a := b) (cell := cellB) hcell
    (fun z h => by rw [h] at hobj; cases hobj) hselP hmethM habM hkP hkPi (g := g) hg (argsL := argsL) (rest := rest) (hlen _ hsigM) hstack hdg
  rcases hK m meth c ⟨T.setVm vm₁, locs, cells, slots⟩ { g with stack := rest } (.invokevirtual index) mk (Value.ref b :: argsL).toArray X₁ hg hsize hdg hW (X₁.named hnamed) (hpre vm₁ X₁.warmed) with ⟨v, B, X', hpost, hsteps⟩ | ⟨q, B, X', hpost, hsteps⟩
  · exact Or.inl ⟨v, vm₁, B, X₁.warmed, X', hpost, fun target h => hstep₁ _ fun acts => by rw [doInvoke_state]; exact hsteps.trans h⟩
  · exact Or.inr ⟨q, vm₁, B, X₁.warmed, X', hpost, hstep₁ _ fun acts => by rw [doInvoke_state]; exact hsteps⟩
theorem vx_callSX (X : Stand p l e R s m args below meth c T locs cells slots) (hexec : p.tables.exec = Jvm.exec) {own : String} {index : Nat} {y : MethodName} {bytes : ByteArray} {maxL : Nat} {ret : Option FieldType} {hh : List (Nat × Nat × Nat × Nat)}
    (hown : s.vm.findClass own = some m.cls) (hlink : (Cond.methodLink own index y).before args s = true) (hstat : (Cond.static y).before args s = true) (hinit : (Cond.initialized y.cls).before args s = true)
    (hcode : (Cond.codeWith y bytes maxL ret hh).before args s = true) (hy : y.cls ≠ "java/lang/invoke/MethodHandle" ∧ y.cls ≠ "java/lang/invoke/VarHandle")
    {W9 : Nat} {Pre : Pt → Array Value → Prop} {Post : Pt → Array Value → Option Value → Pt → Prop} {PostX : Pt → Array Value → Addr → Pt → Prop} (hK : vx_Back l R p e below s args y 3 W9 Pre Post PostX)
    {g : JFrame} (hg : g.method = m) (hsize : g.locals.size = c.maxLocals) {argsL rest : List Value} (hlen : ∀ sig, parseMethodDescriptor y.desc = some sig → argsL.length = sig.parameters.length)
    (hstack : g.stack = argsL.reverse ++ rest) (hW : 2 * g.monitorRoom + (rest.map fun v => v.category).sum ≤ W9) (hdg : decode c.code g.pc = .ok (.invokestatic index, 3))
    (hpre : ∀ vm₁, s.WarmedH vm₁ → Pre ⟨T.setVm vm₁, locs, cells, slots⟩ argsL.toArray) :
    (∃ (v : Option Value) (vm₁ : Vm) (B : Pt), s.WarmedH vm₁ ∧ Stand p l e R s m args below meth c B.U B.locs B.cells B.slots ∧ Post ⟨T.setVm vm₁, locs, cells, slots⟩ argsL.toArray v B ∧
      ∀ target, Steps p.tables e below (B.U.setTop { g with pc := g.pc + 3, stack := v.toList ++ rest }) target → Steps p.tables e below (T.setTop g) target) ∨
    (∃ (q : Addr) (vm₁ : Vm) (B : Pt), s.WarmedH vm₁ ∧ Stand p l e R s m args below meth c B.U B.locs B.cells B.slots ∧ PostX ⟨T.setVm vm₁, locs, cells, slots⟩ argsL.toArray q B ∧
      Steps p.tables e below (T.setTop g) ((B.U.setTop { g with stack := rest }).pushFrame (.throwing q))) := by
  obtain ⟨mk, methM, cM, hnamed, hmethM, -, -, -, -, -, -, hsigM⟩ := Cond.codeWith_spec hcode
  have hstatic : methM.isStatic = true := Cond.static_spec hnamed hmethM hstat
  obtain ⟨kP, hkP, -⟩ := className_of_methodNamed hnamed
  have hinitP : kP.init = .initialized := Cond.initialized_spec (findClass_of_methodNamed hnamed) hkP hinit
  obtain ⟨vm₁, X₁, hstep₁⟩ := X.invokestatic hexec hown hlink hnamed hmethM hstatic hkP hinitP hy (g := g) hg (argsL := argsL) (rest := rest) (hlen _ hsigM) hstack hdg
  rcases hK m meth c ⟨T.setVm vm₁, locs, cells, slots⟩ { g with stack := rest } (.invokestatic index) mk argsL.toArray X₁ hg hsize hdg hW (X₁.named hnamed) (hpre vm₁ X₁.warmed) with ⟨v, B, X', hpost, hsteps⟩ | ⟨q, B, X', hpost, hsteps⟩
  · exact Or.inl ⟨v, vm₁, B, X₁.warmed, X', hpost, fun target h => hstep₁ _ fun acts => by rw [doInvoke_state]; exact hsteps.trans h⟩
  · exact Or.inr ⟨q, vm₁, B, X₁.warmed, X', hpost, hstep₁ _ fun acts => by rw [doInvoke_state]; exact hsteps⟩
theorem vx_callVW (X : Stand p l e R s m args below meth c T locs cells slots) (hexec : p.tables.exec = Jvm.exec) {own C : String} {index : Nat} {y : MethodName} {bytes : ByteArray} {maxL : Nat} {ret : Option FieldType} {hh : List (Nat × Nat × Nat × Nat)}
    (hown : s.vm.findClass own = some m.cls) (hlink : (Cond.methodLink own index y).before args s = true) (hinst : (Cond.instanceMethod y).before args s = true) (hsel : (Cond.selects C y y).before args s = true)
    (hcode : (Cond.codeWith y bytes maxL ret hh).before args s = true) (hy : y.cls ≠ "java/lang/invoke/MethodHandle" ∧ y.cls ≠ "java/lang/invoke/VarHandle")
    {W9 : Nat} {Pre : Pt → Array Value → Prop} {Post : Pt → Array Value → Option Value → Pt → Prop} (hK : Back l R p e below s args y 3 W9 Pre Post)
    {b : Addr} {cellB : Cell} (hcell : T.heap[b]? = some cellB) (hobj : cellB.vm.isStatics = false) (hcls : s.vm.findClass C = some cellB.cls)
    {g : JFrame} (hg : g.method = m) (hsize : g.locals.size = c.maxLocals) {argsL rest : List Value} (hlen : ∀ sig, parseMethodDescriptor y.desc = some sig → argsL.length = sig.parameters.length)
    (hstack : g.stack = argsL.reverse ++ .ref b :: rest) (hW : 2 * g.monitorRoom + (rest.map fun v => v.category).sum ≤ W9) (hdg : decode c.code g.pc = .ok (.invokevirtual index, 3))
    (hpre : ∀ vm₁, s.WarmedH vm₁ → Pre ⟨T.setVm vm₁, locs, cells, slots⟩ (Value.ref b :: argsL).toArray) :
    ∃ (v : Option Value) (vm₁ : Vm) (B : Pt), s.WarmedH vm₁ ∧ Stand p l e R s m args below meth c B.U B.locs B.cells B.slots ∧ Post ⟨T.setVm vm₁, locs, cells, slots⟩ (Value.ref b :: argsL).toArray v B ∧
      ∀ target, Steps p.tables e below (B.U.setTop { g with pc := g.pc + 3, stack := v.toList ++ rest }) target → Steps p.tables e below (T.setTop g) target := by
  obtain ⟨mk, methM, hnamed, hmethM, hstM, habM⟩ := Cond.instanceMethod_spec hinst
  obtain ⟨m8, methM', cM, hn8, hmethM', -, -, -, -, -, -, hsigM⟩ := Cond.codeWith_spec hcode
  cases Option.some.inj (hn8.symm.trans hnamed)
  cases hmethM.symm.trans hmethM'
  obtain ⟨c2, r2, m2, q1, q2, q3, q4, kP, hkP, hkPi⟩ := Cond.selects_spec hsel
  cases hcls.symm.trans q1
  cases (State.methodFound?_of_named hnamed hy).symm.trans q2
  cases hnamed.symm.trans q3
  have hselP : selectMethod e.platform s.vm cellB.cls mk = .method mk := by rw [Launch.admits_selectMethod X.admits]; exact q4
  obtain ⟨vm₁, X₁, hstep₁⟩ := X.invokevirtual hexec hown hlink hnamed hmethM hstM hkP hkPi hy (a := b) (cell := cellB) hcell
    (fun z h => by rw [h] at hobj; cases hobj) hselP hmethM habM hkP hkPi (g := g) hg (argsL := argsL) (rest := rest) (hlen _ hsigM) hstack hdg
  obtain ⟨v, B, X', hpost, hsteps⟩ := hK m meth c ⟨T.setVm vm₁, locs, cells, slots⟩ { g with stack := rest } (.invokevirtual index) mk (Value.ref b :: argsL).toArray X₁ hg hsize hdg hW (X₁.named hnamed) (hpre vm₁ X₁.warmed)
  exact ⟨v, vm₁, B, X₁.warmed, X', hpost, fun target h => hstep₁ _ fun acts => by rw [doInvoke_state]; exact hsteps.trans h⟩
abbrev vx_CVW (R : Room) (s : State) (args : Array Value) (own C : String) (index : Nat) (y : MethodName) (bytes : ByteArray) (maxL : Nat) (ret : Option FieldType) (hh : List (Nat × Nat × Nat × Nat)) (ws : List Cond) (rm : Room) (mc ms n : Nat) : Prop :=
  (rm.cells = mc ∧ rm.slots = ms ∧ rm.frames + 1 ≤ R.frames ∧ 8 + (maxL + 11) + rm.locals ≤ R.locals ∧ (∀ w ∈ ws, ∀ (a' : Array Value) (U : State), s.WarmedH U.vm → w.before a' U = true) ∧ Cond.codeWith y bytes maxL ret hh ∈ ws) ∧
  (Cond.codeWith y bytes maxL ret hh).before args s = true ∧ (Cond.initialized y.cls).before args s = true ∧ (y.cls ≠ "java/lang/invoke/MethodHandle" ∧ y.cls ≠ "java/lang/invoke/VarHandle") ∧
  (∀ sig, parseMethodDescriptor y.desc = some sig → n = sig.parameters.length) ∧ (Cond.methodLink own index y).before args s = true ∧ (Cond.instanceMethod y).before args s = true ∧ (Cond.selects C y y).before args s = true
theorem vx_cwVW {own C : String} {index maxL mc ms : Nat} {y : MethodName} {bytes : ByteArray} {ret : Option FieldType} {hh : List (Nat × Nat × Nat × Nat)} {Ts ws ws' : List Cond} {rm : Room} (n : Nat) (ht : ∀ w ∈ Ts, w.before args s = true) (hT : GoodIn Ts (wsV own index C y ws)) (hw : ws = Cond.codeWith y bytes maxL ret hh :: ws') (hrc : rm.cells = mc) (hrs : rm.slots = ms)
    (hd : y.cls = C ∧ y.cls ≠ "java/lang/invoke/MethodHandle" ∧ y.cls ≠ "java/lang/invoke/VarHandle" ∧ (parseMethodDescriptor y.desc).map (fun d => d.parameters.length) = some n) (hR : rm.frames + 1 ≤ R.frames ∧ 8 + (maxL + 11) + rm.locals ≤ R.locals) :
    vx_CVW R s args own C index y bytes maxL ret hh ws rm mc ms n := by
  obtain ⟨hC, hd⟩ := hd
  subst hC
  have ok : ∀ w ∈ wsV own index y.cls y ws, w.before args s = true := fun w h => ht w (hT w h).1
  have hG : GoodIn Ts ws := fun w h => hT w (by unfold wsV; exact List.mem_append_right _ h)
  have hc : Cond.codeWith y bytes maxL ret hh ∈ ws := by rw [hw]; exact List.mem_cons_self
  refine ⟨⟨hrc, hrs, hR.1, hR.2, pay_in ht hG, hc⟩, ht _ (hG _ hc).1, ok _ (by simp [wsV]), ⟨hd.1, hd.2.1⟩, fun sig h => ?_, ok _ (by simp [wsV]), ok _ (by simp [wsV]), ok _ (by simp [wsV])⟩
  have h2 := hd.2.2
  rw [h] at h2
  exact (Option.some.inj h2).symm
theorem vx_runVW {y : MethodName} {bytes cc : ByteArray} {maxL nL mc ms n index : Nat} {ret : Option FieldType} {hh : List (Nat × Nat × Nat × Nat)} {ws : List Cond} {rm : Room} {Pc : Array Value → State → Prop} {Qc : Array Value → State → Outcome → State → Prop} {free : Addr → Prop} {Ts : List Cond} {own C : String} {b : Addr} {As rest : List Value} {g : JFrame}
    (S : CallFix p m c cc nL s args Ts own) (hM : Met l y ws rm Pc Qc mc ms free) (cw : vx_CVW R s args own C index y bytes maxL ret hh ws rm mc ms n) (hp : PreV s H C b Pc As)
    (hg : g.method = m) (hn : As.length = n) (hsize : g.locals.size = nL) (hstack : g.stack = As.reverse ++ .ref b :: rest) (hW : 2 * g.monitorRoom + (rest.map fun v => v.category).sum ≤ 8) (hdg : decode cc g.pc = .ok (.invokevirtual index, 3)) (hf : cells + mc ≤ R.cells ∧ slots + ms ≤ R.slots) :
    va_Run p l e R s m args below meth c H locs cells slots mc ms g rest (Qc (Value.ref b :: As).toArray) free := by
  obtain ⟨⟨hrc, hrs, hfr, hlo, hws, hcw⟩, hcode, hini, hy, hlen, hl, hin, hse⟩ := cw
  have hK : Back l R p e below s args y 3 8 (PreOf R mc ms Pc) (PostOf Qc mc ms free) := va_backW (hh := hh) (bytes := bytes) (maxL := maxL) (ret := ret) hM hp.1 hrc hrs hfr hlo hws hcw (fun a' U hW => word_at hW (Or.inl (by first | rfl | simp [Cond.onTables, Cond.keeps, Cond.steady])) hini)
  obtain ⟨hx, hb, hml, ho, -⟩ := S
  obtain ⟨-, ⟨cellB, hcB, hoB, hclB⟩, hPc⟩ := hp
  intro T hT X
  obtain ⟨v, vm₁, ⟨U', l2, c2, s2⟩, hW₁, X', ⟨g', mk, t, L, e1, e2, hq, h1, hL, h2, h3⟩, st⟩ := vx_callVW X hx (C := C) (hh := hh) (bytes := bytes) (maxL := maxL) (ret := ret) ho hl hin hse hcode hy hK (by rw [hT]; exact hcB) hoB hclB hg (hsize.trans hml.symm) (argsL := As) (rest := rest) (fun sig h => hn.trans (hlen sig h)) hstack hW (by rw [hb]; exact hdg)
    (fun vm₁ hW₁ => ⟨hf.1, hf.2, hPc (T.setVm vm₁) hT hW₁⟩)
  dsimp only [Pt.U, Pt.locs, Pt.cells, Pt.slots] at X' e1 e2 h1 h2 h3 st
  subst h1; subst h2; subst h3
  exact ⟨v, (T.setVm vm₁).calling g' mk (Value.ref b :: As).toArray, t, U', L, hT, X', hL, e1, e2, hq, st⟩
section
variable {y : MethodName} {bytes cc : ByteArray} {maxL nL mc ms n index : Nat} {ret : Option FieldType} {ws : List Cond} {rm : Room} {Pc : Array Value → State → Prop} {Qc : Array Value → State → Outcome → State → Prop} {XC : String → State → State → Prop} {free : Addr → Prop} {Ts : List Cond} {own C : String} {b : Addr} {As rest : List Value} {g : JFrame}
theorem vx_runVX {hh : List (Nat × Nat × Nat × Nat)} (S : CallFix p m c cc nL s args Ts own) (hM : vx_Met l y ws rm Pc Qc XC mc ms free) (cw : vx_CVW R s args own C index y bytes maxL ret hh ws rm mc ms n) (hp : PreV s H C b Pc As)
    (hg : g.method = m) (hn : As.length = n) (hsize : g.locals.size = nL) (hstack : g.stack = As.reverse ++ .ref b :: rest) (hW : 2 * g.monitorRoom + (rest.map fun v => v.category).sum ≤ 8) (hdg : decode cc g.pc = .ok (.invokevirtual index, 3)) (hf : cells + mc ≤ R.cells ∧ slots + ms ≤ R.slots) :
    vx_Run p l e R s m args below meth c H locs cells slots mc ms g rest (Qc (Value.ref b :: As).toArray) XC free := by
  obtain ⟨⟨hrc, hrs, hfr, hlo, hws, hcw⟩, hcode, hini, hy, hlen, hl, hin, hse⟩ := cw
  have hK : vx_Back l R p e below s args y 3 8 (PreOf R mc ms Pc) (PostOf Qc mc ms free) (vx_Post XC mc ms free) := vx_backW (hh := hh) (bytes := bytes) (maxL := maxL) (ret := ret) hM hp.1 hrc hrs hfr hlo hws hcw (fun a' U hW => word_at hW (Or.inl (by first | rfl | simp [Cond.onTables, Cond.keeps, Cond.steady])) hini)
  obtain ⟨hx, hb, hml, ho, -⟩ := S
  obtain ⟨-, ⟨cellB, hcB, hoB, hclB⟩, hPc⟩ := hp
  intro T hT X
  rcases vx_callVX X hx (C := C) (hh := hh) (bytes := bytes) (maxL := maxL) (ret := ret) ho hl hin hse hcode hy hK (by rw [hT]; exact hcB) hoB hclB hg (hsize.trans hml.symm) (argsL := As) (rest := rest) (fun sig h => hn.trans (hlen sig h)) hstack hW (by rw [hb]; exact hdg)
    (fun vm₁ hW₁ => ⟨hf.1, hf.2, hPc (T.setVm vm₁) hT hW₁⟩) with ⟨v, vm₁, ⟨U', l2, c2, s2⟩, hW₁, X', ⟨g', mk, t, L, e1, e2, hq, h1, hL, h2, h3⟩, st⟩ | ⟨q, vm₁, ⟨U', l2, c2, s2⟩, hW₁, X', ⟨g', mk, t, L, E, ce, e1, e2, hq, hce, hcv, hcl, h1, hL, h2, h3⟩, st⟩
  · dsimp only [Pt.U, Pt.locs, Pt.cells, Pt.slots] at X' e1 e2 h1 h2 h3 st
    subst h1; subst h2; subst h3
    exact Or.inl ⟨v, (T.setVm vm₁).calling g' mk (Value.ref b :: As).toArray, t, U', L, hT, X', hL, e1, e2, hq, st⟩
  · dsimp only [Pt.U, Pt.locs, Pt.cells, Pt.slots] at X' e1 e2 h1 h2 h3 st hcl
    subst h1; subst h2; subst h3
    exact Or.inr ⟨q, (T.setVm vm₁).calling g' mk (Value.ref b :: As).toArray, t, U', L, E, ce, hT, X', hL, e1, e2, hq, hce, hcv, vx_cls hW₁ hcl, st⟩
theorem vx_runSX {hh : List (Nat × Nat × Nat × Nat)} (S : CallFix p m c cc nL s args Ts own) (hM : vx_Met l y ws rm Pc Qc XC mc ms free) (cw : vx_CSW R s args own index y bytes maxL ret hh ws rm mc ms n) (hp : PreS s H Pc As)
    (hg : g.method = m) (hn : As.length = n) (hsize : g.locals.size = nL) (hstack : g.stack = As.reverse ++ rest) (hW : 2 * g.monitorRoom + (rest.map fun v => v.category).sum ≤ 8) (hdg : decode cc g.pc = .ok (.invokestatic index, 3)) (hf : cells + mc ≤ R.cells ∧ slots + ms ≤ R.slots) :
    vx_Run p l e R s m args below meth c H locs cells slots mc ms g rest (Qc As.toArray) XC free := by
  obtain ⟨⟨hrc, hrs, hfr, hlo, hws, hcw⟩, hcode, hini, hy, hlen, hl, hstt⟩ := cw
  have hK : vx_Back l R p e below s args y 3 8 (PreOf R mc ms Pc) (PostOf Qc mc ms free) (vx_Post XC mc ms free) := vx_backW (hh := hh) (bytes := bytes) (maxL := maxL) (ret := ret) hM hp.1 hrc hrs hfr hlo hws hcw (fun a' U hW => word_at hW (Or.inl (by first | rfl | simp [Cond.onTables, Cond.keeps, Cond.steady])) hini)
  obtain ⟨hx, hb, hml, ho, -⟩ := S
  intro T hT X
  rcases vx_callSX X hx (hh := hh) (bytes := bytes) (maxL := maxL) (ret := ret) ho hl hstt hini hcode hy hK hg (hsize.trans hml.symm) (argsL := As) (rest := rest) (fun sig h => hn.trans (hlen sig h)) hstack hW (by rw [hb]; exact hdg)
    (fun vm₁ hW₁ => ⟨hf.1, hf.2, hp.2 (T.setVm vm₁) hT hW₁⟩) with ⟨v, vm₁, ⟨U', l2, c2, s2⟩, hW₁, X', ⟨g', mk, t, L, e1, e2, hq, h1, hL, h2, h3⟩, st⟩ | ⟨q, vm₁, ⟨U', l2, c2, s2⟩, hW₁, X', ⟨g', mk, t, L, E, ce, e1, e2, hq, hce, hcv, hcl, h1, hL, h2, h3⟩, st⟩
  · dsimp only [Pt.U, Pt.locs, Pt.cells, Pt.slots] at X' e1 e2 h1 h2 h3 st
    subst h1; subst h2; subst h3
    exact Or.inl ⟨v, (T.setVm vm₁).calling g' mk As.toArray, t, U', L, hT, X', hL, e1, e2, hq, st⟩
  · dsimp only [Pt.U, Pt.locs, Pt.cells, Pt.slots] at X' e1 e2 h1 h2 h3 st hcl
    subst h1; subst h2; subst h3
    exact Or.inr ⟨q, (T.setVm vm₁).calling g' mk As.toArray, t, U', L, E, ce, hT, X', hL, e1, e2, hq, hce, hcv, vx_cls hW₁ hcl, st⟩
end
end VXH
theorem vx_ofWH {l : Launch} {y : MethodName} {ws ws' : List Cond} {rm : Room} {Pc : Array Value → State → Prop} {Qc : Array Value → State → Outcome → State → Prop} {XC : String → State → State → Prop} {mc ms : Nat} {free : Addr → Prop} {cc : ByteArray} {maxL : Nat} {ret : Option FieldType} {hh : List (Nat × Nat × Nat × Nat)}
    (hy : plainName y.cls = true) (hw : ws = Cond.codeWith y cc maxL ret hh :: ws')
    (body : ∀ p e s m args below meth c s₁, BodyLoose p l y (headSpec ws rm) cc maxL ret e s m args below meth c s₁ → c.maxLocals = maxL → Pc args s →
      W p l e (headSpec ws rm).room s m args below meth c s.heap [] 0 0 (vx_MQ below Qc XC args s mc ms free) (entryFrame m args maxL)) : vx_Met l y ws rm Pc Qc XC mc ms free := by
  refine MetFree.of_bodyS (code := cc) (maxLocals := maxL) (ret := ret) hy ?_ ?_
  · intro args s m h hn
    obtain ⟨m9, meth, c, hn9, h1, h2, h3, h4, -, h5, h6, -⟩ := Cond.codeWith_spec (atoms_spec (ws := ws) h _ (by rw [hw]; exact List.mem_cons_self))
    cases hn.symm.trans hn9
    exact ⟨meth, c, h1, h2, h3, h4, h5, h6⟩
  · intro p e s m args below meth c s₁ B hml hP _
    have hh0 : s₁.heap = s.heap := by rw [B.state]; rfl
    obtain ⟨t, a1, o, b1, b2, b3⟩ := body p e s m args below meth c s₁ B hml hP s₁ hh0 (Stand.of_body B)
    exact ⟨t, o, a1, b1, b2, b3⟩
/-! ===== END ===== -/
/-! ===== BEGIN a private method of a nest mate that may throw (follows va_callVN, va_callSN, va_runVN, va_runSN) ===== -/
section
variable {p : Program} {l : Launch} {e : Env} {R : Room} {s : State} {m : MethodId} {args : Array Value} {below : List Frame} {meth : Method} {c : Code} {H : Heap} {locs : List Loc} {cells slots : Nat}
variable {T : State}
theorem vx_callVN (X : Stand p l e R s m args below meth c T locs cells slots) (hexec : p.tables.exec = Jvm.exec) {own C : String} {index : Nat} {host : String} {y : MethodName} {bytes : ByteArray} {maxL : Nat} {ret : Option FieldType}
    (hown : s.vm.findClass own = some m.cls) (hlink : (Cond.methodLinkNest own index y host).before args s = true) (hinst : (Cond.instanceMethod y).before args s = true) (hsel : (Cond.selects C y y).before args s = true)
    (hcode : (Cond.code y bytes maxL ret).before args s = true) (hy : y.cls ≠ "java/lang/invoke/MethodHandle" ∧ y.cls ≠ "java/lang/invoke/VarHandle")
    {W : Nat} {Pre : Pt → Array Value → Prop} {Post : Pt → Array Value → Option Value → Pt → Prop} {PostX : Pt → Array Value → Addr → Pt → Prop} (hK : vx_Back l R p e below s args y 3 W Pre Post PostX)
    {b : Addr} {cellB : Cell} (hcell : T.heap[b]? = some cellB) (hobj : cellB.vm.isStatics = false) (hcls : s.vm.findClass C = some cellB.cls)
    {g : JFrame} (hg : g.method = m) (hsize : g.locals.size = c.maxLocals) {argsL rest : List Value} (hlen : ∀ sig, parseMethodDescriptor y.desc = some sig → argsL.length = sig.parameters.length)
    (hstack : g.stack = argsL.reverse ++ .ref b :: rest) (hW : 2 * g.monitorRoom + (rest.map fun v => v.category).sum ≤ W) (hdg : decode c.code g.pc = .ok (.invokevirtual index, 3))
    (hpre : ∀ vm₁, s.WarmedH vm₁ → Pre ⟨T.setVm vm₁, locs, cells, slots⟩ (Value.ref b :: argsL).toArray) :
    (∃ (v : Option Value) (vm₁ : Vm) (B : Pt), s.WarmedH vm₁ ∧ Stand p l e R s m args below meth c B.U B.locs B.cells B.slots ∧ Post ⟨T.setVm vm₁, locs, cells, slots⟩ (Value.ref b :: argsL).toArray v B ∧
      ∀ target, Steps p.tables e below (B.U.setTop { g with pc := g.pc + 3, stack := v.toList ++ rest }) target → Steps p.tables e below (T.setTop g) target) ∨
    (∃ (q : Addr) (vm₁ : Vm) (B : Pt), s.WarmedH vm₁ ∧ Stand p l e R s m args below meth c B.U B.locs B.cells B.slots ∧ PostX ⟨T.setVm vm₁, locs, cells, slots⟩ (Value.ref b :: argsL).toArray q B ∧
      Steps p.tables e below (T.setTop g) ((B.U.setTop { g with stack := rest }).pushFrame (.throwing q))) := by
  obtain ⟨mk, methM, hnamed, hmethM, hstM, habM⟩ := Cond.instanceMethod_spec hinst
  obtain ⟨methM', cM, hmethM', -, -, -, -, -, -, hsigM⟩ := Cond.code_spec hnamed hcode
  cases hmethM.symm.trans hmethM'
  obtain ⟨c2, r2, m2, q1, q2, q3, q4, kP, hkP, hkPi⟩ := Cond.selects_spec hsel
  cases hcls.symm.trans q1
  cases (State.methodFound?_of_named hnamed hy).symm.trans q2
  cases hnamed.symm.trans q3
  have hselP : selectMethod e.platform s.vm cellB.cls mk = .method mk := by rw [Launch.admits_selectMethod X.admits]; exact q4
  obtain ⟨vm₁, X₁, hstep₁⟩ := X.invokevirtualNest hexec hown hlink hnamed hmethM hstM hkP hkPi hy (a := b) (cell := cellB) hcell
    (fun z h => by rw [h] at hobj; cases hobj) hselP hmethM habM hkP hkPi (g := g) hg (argsL := argsL) (rest := rest) (hlen _ hsigM) hstack hdg
  rcases hK m meth c ⟨T.setVm vm₁, locs, cells, slots⟩ { g with stack := rest } (.invokevirtual index) mk (Value.ref b :: argsL).toArray X₁ hg hsize hdg hW (X₁.named hnamed) (hpre vm₁ X₁.warmed) with ⟨v, B, X', hpost, hsteps⟩ | ⟨q, B, X', hpost, hsteps⟩
  · exact Or.inl ⟨v, vm₁, B, X₁.warmed, X', hpost, fun target h => hstep₁ _ fun acts => by rw [doInvoke_state]; exact hsteps.trans h⟩
  · exact Or.inr ⟨q, vm₁, B, X₁.warmed, X', hpost, hstep₁ _ fun acts => by rw [doInvoke_state]; exact hsteps⟩
theorem vx_callSN (X : Stand p l e R s m args below meth c T locs cells slots) (hexec : p.tables.exec = Jvm.exec) {own : String} {index : Nat} {host : String} {y : MethodName} {bytes : ByteArray} {maxL : Nat} {ret : Option FieldType}
    (hown : s.vm.findClass own = some m.cls) (hlink : (Cond.methodLinkNest own index y host).before args s = true) (hstat : (Cond.static y).before args s = true) (hinit : (Cond.initialized y.cls).before args s = true)
    (hcode : (Cond.code y bytes maxL ret).before args s = true) (hy : y.cls ≠ "java/lang/invoke/MethodHandle" ∧ y.cls ≠ "java/lang/invoke/VarHandle")
    {W : Nat} {Pre : Pt → Array Value → Prop} {Post : Pt → Array Value → Option Value → Pt → Prop} {PostX : Pt → Array Value → Addr → Pt → Prop} (hK : vx_Back l R p e below s args y 3 W Pre Post PostX)
    {g : JFrame} (hg : g.method = m) (hsize : g.locals.size = c.maxLocals) {argsL rest : List Value} (hlen : ∀ sig, parseMethodDescriptor y.desc = some sig → argsL.length = sig.parameters.length)
    (hstack : g.stack = argsL.reverse ++ rest) (hW : 2 * g.monitorRoom + (rest.map fun v => v.category).sum ≤ W) (hdg : decode c.code g.pc = .ok (.invokestatic index, 3))
    (hpre : ∀ vm₁, s.WarmedH vm₁ → Pre ⟨T.setVm vm₁, locs, cells, slots⟩ argsL.toArray) :
    (∃ (v : Option Value) (vm₁ : Vm) (B : Pt), s.WarmedH vm₁ ∧ Stand p l e R s m args below meth c B.U B.locs B.cells B.slots ∧ Post ⟨T.setVm vm₁, locs, cells, slots⟩ argsL.toArray v B ∧
      ∀ target, Steps p.tables e below (B.U.setTop { g with pc := g.pc + 3, stack := v.toList ++ rest }) target → Steps p.tables e below (T.setTop g) target) ∨
    (∃ (q : Addr) (vm₁ : Vm) (B : Pt), s.WarmedH vm₁ ∧ Stand p l e R s m args below meth c B.U B.locs B.cells B.slots ∧ PostX ⟨T.setVm vm₁, locs, cells, slots⟩ argsL.toArray q B ∧
      Steps p.tables e below (T.setTop g) ((B.U.setTop { g with stack := rest }).pushFrame (.throwing q))) := by
  obtain ⟨mk, hnamed⟩ := Cond.code_named hcode
  obtain ⟨methM, cM, hmethM, -, -, -, -, -, -, hsigM⟩ := Cond.code_spec hnamed hcode
  have hstatic : methM.isStatic = true := Cond.static_spec hnamed hmethM hstat
  obtain ⟨kP, hkP, -⟩ := className_of_methodNamed hnamed
  have hinitP : kP.init = .initialized := Cond.initialized_spec (findClass_of_methodNamed hnamed) hkP hinit
  obtain ⟨vm₁, X₁, hstep₁⟩ := X.invokestaticNest hexec hown hlink hnamed hmethM hstatic hkP hinitP hy (g := g) hg (argsL := argsL) (rest := rest) (hlen _ hsigM) hstack hdg
  rcases hK m meth c ⟨T.setVm vm₁, locs, cells, slots⟩ { g with stack := rest } (.invokestatic index) mk argsL.toArray X₁ hg hsize hdg hW (X₁.named hnamed) (hpre vm₁ X₁.warmed) with ⟨v, B, X', hpost, hsteps⟩ | ⟨q, B, X', hpost, hsteps⟩
  · exact Or.inl ⟨v, vm₁, B, X₁.warmed, X', hpost, fun target h => hstep₁ _ fun acts => by rw [doInvoke_state]; exact hsteps.trans h⟩
  · exact Or.inr ⟨q, vm₁, B, X₁.warmed, X', hpost, hstep₁ _ fun acts => by rw [doInvoke_state]; exact hsteps⟩
theorem vx_runVN {y : MethodName} {bytes cc : ByteArray} {maxL nL mc ms n index : Nat} {ret : Option FieldType} {ws : List Cond} {rm : Room} {Pc : Array Value → State → Prop} {Qc : Array Value → State → Outcome → State → Prop} {XC : String → State → State → Prop} {free : Addr → Prop} {Ts : List Cond} {own C host : String} {b : Addr} {As rest : List Value} {g : JFrame}
    (S : CallFix p m c cc nL s args Ts own) (hM : vx_Met l y ws rm Pc Qc XC mc ms free) (cw : va_CN R s args own index y host bytes maxL ret ws rm mc ms n ∧ (Cond.instanceMethod y).before args s = true ∧ (Cond.selects C y y).before args s = true) (hp : PreV s H C b Pc As)
    (hg : g.method = m) (hn : As.length = n) (hsize : g.locals.size = nL) (hstack : g.stack = As.reverse ++ .ref b :: rest) (hW : 2 * g.monitorRoom + (rest.map fun v => v.category).sum ≤ 8) (hdg : decode cc g.pc = .ok (.invokevirtual index, 3)) (hf : cells + mc ≤ R.cells ∧ slots + ms ≤ R.slots) :
    vx_Run p l e R s m args below meth c H locs cells slots mc ms g rest (Qc (Value.ref b :: As).toArray) XC free := by
  obtain ⟨⟨⟨hrc, hrs, hfr, hlo, hws, hcw⟩, hcode, hini, hy, hlen, hl⟩, hx1, hx2⟩ := cw
  have hK : vx_Back l R p e below s args y 3 8 (PreOf R mc ms Pc) (PostOf Qc mc ms free) (vx_Post XC mc ms free) := vx_back (bytes := bytes) (maxL := maxL) (ret := ret) hM hp.1 hrc hrs hfr hlo hws hcw (fun a' U hW => word_at hW (Or.inl (by first | rfl | simp [Cond.onTables, Cond.keeps, Cond.steady])) hini)
  obtain ⟨hx, hb, hml, ho, -⟩ := S
  obtain ⟨-, ⟨cellB, hcB, hoB, hclB⟩, hPc⟩ := hp
  intro T hT X
  rcases vx_callVN X hx (C := C) (bytes := bytes) (maxL := maxL) (ret := ret) ho hl hx1 hx2 hcode hy hK (by rw [hT]; exact hcB) hoB hclB hg (hsize.trans hml.symm) (argsL := As) (rest := rest) (fun sig h => hn.trans (hlen sig h)) hstack hW (by rw [hb]; exact hdg)
    (fun vm₁ hW₁ => ⟨hf.1, hf.2, hPc (T.setVm vm₁) hT hW₁⟩) with ⟨v, vm₁, ⟨U', l2, c2, s2⟩, hW₁, X', ⟨g', mk, t, L, e1, e2, hq, h1, hL, h2, h3⟩, st⟩ | ⟨q, vm₁, ⟨U', l2, c2, s2⟩, hW₁, X', ⟨g', mk, t, L, E, ce, e1, e2, hq, hce, hcv, hcl, h1, hL, h2, h3⟩, st⟩
  · dsimp only [Pt.U, Pt.locs, Pt.cells, Pt.slots] at X' e1 e2 h1 h2 h3 st
    subst h1; subst h2; subst h3
    exact Or.inl ⟨v, (T.setVm vm₁).calling g' mk (Value.ref b :: As).toArray, t, U', L, hT, X', hL, e1, e2, hq, st⟩
  · dsimp only [Pt.U, Pt.locs, Pt.cells, Pt.slots] at X' e1 e2 h1 h2 h3 st hcl
    subst h1; subst h2; subst h3
    exact Or.inr ⟨q, (T.setVm vm₁).calling g' mk (Value.ref b :: As).toArray, t, U', L, E, ce, hT, X', hL, e1, e2, hq, hce, hcv, vx_cls hW₁ hcl, st⟩
theorem vx_runSN {y : MethodName} {bytes cc : ByteArray} {maxL nL mc ms n index : Nat} {ret : Option FieldType} {ws : List Cond} {rm : Room} {Pc : Array Value → State → Prop} {Qc : Array Value → State → Outcome → State → Prop} {XC : String → State → State → Prop} {free : Addr → Prop} {Ts : List Cond} {own host : String} {As rest : List Value} {g : JFrame}
    (S : CallFix p m c cc nL s args Ts own) (hM : vx_Met l y ws rm Pc Qc XC mc ms free) (cw : va_CN R s args own index y host bytes maxL ret ws rm mc ms n ∧ (Cond.static y).before args s = true ∧ True) (hp : PreS s H Pc As)
    (hg : g.method = m) (hn : As.length = n) (hsize : g.locals.size = nL) (hstack : g.stack = As.reverse ++ rest) (hW : 2 * g.monitorRoom + (rest.map fun v => v.category).sum ≤ 8) (hdg : decode cc g.pc = .ok (.invokestatic index, 3)) (hf : cells + mc ≤ R.cells ∧ slots + ms ≤ R.slots) :
    vx_Run p l e R s m args below meth c H locs cells slots mc ms g rest (Qc As.toArray) XC free := by
  obtain ⟨⟨⟨hrc, hrs, hfr, hlo, hws, hcw⟩, hcode, hini, hy, hlen, hl⟩, hx1, hx2⟩ := cw
  have hK : vx_Back l R p e below s args y 3 8 (PreOf R mc ms Pc) (PostOf Qc mc ms free) (vx_Post XC mc ms free) := vx_back (bytes := bytes) (maxL := maxL) (ret := ret) hM hp.1 hrc hrs hfr hlo hws hcw (fun a' U hW => word_at hW (Or.inl (by first | rfl | simp [Cond.onTables, Cond.keeps, Cond.steady])) hini)
  obtain ⟨hx, hb, hml, ho, -⟩ := S
  have hPc := hp.2
  intro T hT X
  rcases vx_callSN X hx (bytes := bytes) (maxL := maxL) (ret := ret) ho hl hx1 hini hcode hy hK hg (hsize.trans hml.symm) (argsL := As) (rest := rest) (fun sig h => hn.trans (hlen sig h)) hstack hW (by rw [hb]; exact hdg)
    (fun vm₁ hW₁ => ⟨hf.1, hf.2, hPc (T.setVm vm₁) hT hW₁⟩) with ⟨v, vm₁, ⟨U', l2, c2, s2⟩, hW₁, X', ⟨g', mk, t, L, e1, e2, hq, h1, hL, h2, h3⟩, st⟩ | ⟨q, vm₁, ⟨U', l2, c2, s2⟩, hW₁, X', ⟨g', mk, t, L, E, ce, e1, e2, hq, hce, hcv, hcl, h1, hL, h2, h3⟩, st⟩
  · dsimp only [Pt.U, Pt.locs, Pt.cells, Pt.slots] at X' e1 e2 h1 h2 h3 st
    subst h1; subst h2; subst h3
    exact Or.inl ⟨v, (T.setVm vm₁).calling g' mk As.toArray, t, U', L, hT, X', hL, e1, e2, hq, st⟩
  · dsimp only [Pt.U, Pt.locs, Pt.cells, Pt.slots] at X' e1 e2 h1 h2 h3 st hcl
    subst h1; subst h2; subst h3
    exact Or.inr ⟨q, (T.setVm vm₁).calling g' mk As.toArray, t, U', L, E, ce, hT, X', hL, e1, e2, hq, hce, hcv, vx_cls hW₁ hcl, st⟩
end
/-! ===== END ===== -/
end
section
/-! names of the classes, their fields and methods (out of claim/NAMES.whole.lean.txt) -/
def RX0 : String := "Plotwise$Best"
def TX0 : u_T := fun k => match k with
  | 0 => ("Plotwise$Best", "places", "[J", true)
  | _ => ("Plotwise$Best", "size", "I", false)
def tyX0 : Nat → FieldType := fun k => match k with
  | 0 => .array .long
  | _ => .int
abbrev wsX00 : List Cond := u_ws RX0 TX0 2
theorem nmX0 : ∀ a, a < 2 → ∀ b, b < 2 → a ≠ b → (TX0 a).2.1 ≠ (TX0 b).2.1 := by decide +kernel
theorem tyX0_ok : ∀ k, k < 2 → parseFieldDescriptor (TX0 k).2.2.1 = some (tyX0 k) := by decide +kernel
abbrev cX0_init : ByteArray := prog_2_method_1_code
def yX0_init : MethodName := ⟨RX0, "<init>", "()V"⟩
abbrev cX0_size : ByteArray := prog_2_method_2_code
def yX0_size : MethodName := ⟨RX0, "size", "()I"⟩
abbrev cX0_hasRank : ByteArray := prog_2_method_3_code
def yX0_hasRank : MethodName := ⟨RX0, "hasRank", "(I)Z"⟩
abbrev cX0_placeAt : ByteArray := prog_2_method_4_code
def yX0_placeAt : MethodName := ⟨RX0, "placeAt", "(I)J"⟩
abbrev cX0_chartAt : ByteArray := prog_2_method_5_code
def yX0_chartAt : MethodName := ⟨RX0, "chartAt", "(I)I"⟩
abbrev cX0_clear : ByteArray := prog_2_method_6_code
def yX0_clear : MethodName := ⟨RX0, "clear", "()V"⟩
abbrev cX0_isOutOfReach : ByteArray := prog_2_method_7_code
def yX0_isOutOfReach : MethodName := ⟨RX0, "isOutOfReach", "(J)Z"⟩
abbrev cX0_offer : ByteArray := prog_2_method_8_code
def yX0_offer : MethodName := ⟨RX0, "offer", "(J)V"⟩
def RX1 : String := "Plotwise$Chart"
def TX1 : u_T := fun k => match k with
  | _ => ("", "", "", false)
def tyX1 : Nat → FieldType := fun k => match k with
  | _ => .int
abbrev wsX10 : List Cond := u_ws RX1 TX1 0
theorem nmX1 : ∀ a, a < 0 → ∀ b, b < 0 → a ≠ b → (TX1 a).2.1 ≠ (TX1 b).2.1 := by decide +kernel
theorem tyX1_ok : ∀ k, k < 0 → parseFieldDescriptor (TX1 k).2.2.1 = some (tyX1 k) := by decide +kernel
abbrev cX1_bare : ByteArray := prog_3_method_2_code
def yX1_bare : MethodName := ⟨RX1, "bare", "(CI)I"⟩
abbrev cX1_markOf : ByteArray := prog_3_method_3_code
def yX1_markOf : MethodName := ⟨RX1, "markOf", "(I)C"⟩
abbrev cX1_aggregateOf : ByteArray := prog_3_method_4_code
def yX1_aggregateOf : MethodName := ⟨RX1, "aggregateOf", "(I)I"⟩
abbrev cX1_columnIn : ByteArray := prog_3_method_5_code
def yX1_columnIn : MethodName := ⟨RX1, "columnIn", "(II)I"⟩
abbrev cX1_withColumn : ByteArray := prog_3_method_8_code
def yX1_withColumn : MethodName := ⟨RX1, "withColumn", "(III)I"⟩
abbrev cX1_columnSet : ByteArray := prog_3_method_9_code
def yX1_columnSet : MethodName := ⟨RX1, "columnSet", "(I)I"⟩
abbrev cX1_holds : ByteArray := prog_3_method_10_code
def yX1_holds : MethodName := ⟨RX1, "holds", "(II)Z"⟩
abbrev cX1_isPlacement : ByteArray := prog_3_method_11_code
def yX1_isPlacement : MethodName := ⟨RX1, "isPlacement", "(I)Z"⟩
def RX2 : String := "Plotwise$Costs"
def TX2 : u_T := fun k => match k with
  | 0 => ("Plotwise$Costs", "table", "LPlotwise$Table;", true)
  | _ => ("Plotwise$Costs", "weights", "[I", true)
def tyX2 : Nat → FieldType := fun k => match k with
  | 0 => .object "Plotwise$Table"
  | _ => .array .int
abbrev wsX20 : List Cond := u_ws RX2 TX2 2
theorem nmX2 : ∀ a, a < 2 → ∀ b, b < 2 → a ≠ b → (TX2 a).2.1 ≠ (TX2 b).2.1 := by decide +kernel
theorem tyX2_ok : ∀ k, k < 2 → parseFieldDescriptor (TX2 k).2.2.1 = some (tyX2 k) := by decide +kernel
abbrev cX2_init : ByteArray := prog_4_method_1_code
def yX2_init : MethodName := ⟨RX2, "<init>", "(LPlotwise$Table;)V"⟩
abbrev cX2_hasRule : ByteArray := prog_4_method_2_code
def yX2_hasRule : MethodName := ⟨RX2, "hasRule", "(I)Z"⟩
abbrev cX2_exchangeWeight : ByteArray := prog_4_method_3_code
def yX2_exchangeWeight : MethodName := ⟨RX2, "exchangeWeight", "(II)I"⟩
abbrev cX2_costOf : ByteArray := prog_4_method_4_code
def yX2_costOf : MethodName := ⟨RX2, "costOf", "(I)I"⟩
abbrev cX2_brokenSoftRules : ByteArray := prog_4_method_5_code
def yX2_brokenSoftRules : MethodName := ⟨RX2, "brokenSoftRules", "(I)I"⟩
abbrev cX2_bit : ByteArray := prog_4_method_6_code
def yX2_bit : MethodName := ⟨RX2, "bit", "(IZ)I"⟩
abbrev cX2_channelCost : ByteArray := prog_4_method_7_code
def yX2_channelCost : MethodName := ⟨RX2, "channelCost", "(II)I"⟩
def RX3 : String := "Plotwise$HardRules"
def TX3 : u_T := fun k => match k with
  | 0 => ("Plotwise$HardRules", "table", "LPlotwise$Table;", true)
  | 1 => ("Plotwise$HardRules", "wishedSet", "I", false)
  | 2 => ("Plotwise$HardRules", "wishedMark", "C", false)
  | _ => ("Plotwise$HardRules", "forbiddenSet", "I", false)
def tyX3 : Nat → FieldType := fun k => match k with
  | 0 => .object "Plotwise$Table"
  | 1 => .int
  | 2 => .char
  | _ => .int
abbrev wsX30 : List Cond := u_ws RX3 TX3 4
theorem nmX3 : ∀ a, a < 4 → ∀ b, b < 4 → a ≠ b → (TX3 a).2.1 ≠ (TX3 b).2.1 := by decide +kernel
theorem tyX3_ok : ∀ k, k < 4 → parseFieldDescriptor (TX3 k).2.2.1 = some (tyX3 k) := by decide +kernel
abbrev cX3_init : ByteArray := prog_5_method_1_code
def yX3_init : MethodName := ⟨RX3, "<init>", "(LPlotwise$Table;)V"⟩
abbrev cX3_wishColumn : ByteArray := prog_5_method_2_code
def yX3_wishColumn : MethodName := ⟨RX3, "wishColumn", "(IZ)I"⟩
abbrev cX3_exchangeWishedMark : ByteArray := prog_5_method_3_code
def yX3_exchangeWishedMark : MethodName := ⟨RX3, "exchangeWishedMark", "(C)C"⟩
abbrev cX3_isForbidden : ByteArray := prog_5_method_4_code
def yX3_isForbidden : MethodName := ⟨RX3, "isForbidden", "(II)Z"⟩
abbrev cX3_turnForbidden : ByteArray := prog_5_method_5_code
def yX3_turnForbidden : MethodName := ⟨RX3, "turnForbidden", "(II)I"⟩
abbrev cX3_allows : ByteArray := prog_5_method_6_code
def yX3_allows : MethodName := ⟨RX3, "allows", "(I)Z"⟩
abbrev cX3_firstBroken : ByteArray := prog_5_method_7_code
def yX3_firstBroken : MethodName := ⟨RX3, "firstBroken", "(I)I"⟩
abbrev cX3_hasDullColumn : ByteArray := prog_5_method_8_code
def yX3_hasDullColumn : MethodName := ⟨RX3, "hasDullColumn", "(I)Z"⟩
abbrev cX3_hasForbiddenColumn : ByteArray := prog_5_method_9_code
def yX3_hasForbiddenColumn : MethodName := ⟨RX3, "hasForbiddenColumn", "(I)Z"⟩
abbrev cX3_isAsWished : ByteArray := prog_5_method_10_code
def yX3_isAsWished : MethodName := ⟨RX3, "isAsWished", "(I)Z"⟩
def RX4 : String := "Plotwise$Picks"
def TX4 : u_T := fun k => match k with
  | 0 => ("Plotwise$Picks", "former", "[I", true)
  | 1 => ("Plotwise$Picks", "formerCount", "I", false)
  | _ => ("Plotwise$Picks", "present", "I", false)
def tyX4 : Nat → FieldType := fun k => match k with
  | 0 => .array .int
  | 1 => .int
  | _ => .int
abbrev wsX40 : List Cond := u_ws RX4 TX4 3
theorem nmX4 : ∀ a, a < 3 → ∀ b, b < 3 → a ≠ b → (TX4 a).2.1 ≠ (TX4 b).2.1 := by decide +kernel
theorem tyX4_ok : ∀ k, k < 3 → parseFieldDescriptor (TX4 k).2.2.1 = some (tyX4 k) := by decide +kernel
abbrev cX4_init : ByteArray := prog_6_method_1_code
def yX4_init : MethodName := ⟨RX4, "<init>", "()V"⟩
def RX5 : String := "Plotwise$Place"
def TX5 : u_T := fun k => match k with
  | _ => ("", "", "", false)
def tyX5 : Nat → FieldType := fun k => match k with
  | _ => .int
abbrev wsX50 : List Cond := u_ws RX5 TX5 0
theorem nmX5 : ∀ a, a < 0 → ∀ b, b < 0 → a ≠ b → (TX5 a).2.1 ≠ (TX5 b).2.1 := by decide +kernel
theorem tyX5_ok : ∀ k, k < 0 → parseFieldDescriptor (TX5 k).2.2.1 = some (tyX5 k) := by decide +kernel
abbrev cX5_of : ByteArray := prog_7_method_2_code
def yX5_of : MethodName := ⟨RX5, "of", "(II)J"⟩
abbrev cX5_costOf : ByteArray := prog_7_method_3_code
def yX5_costOf : MethodName := ⟨RX5, "costOf", "(J)I"⟩
abbrev cX5_chartOf : ByteArray := prog_7_method_4_code
def yX5_chartOf : MethodName := ⟨RX5, "chartOf", "(J)I"⟩
def RX6 : String := "Plotwise$Search"
def TX6 : u_T := fun k => match k with
  | 0 => ("Plotwise$Search", "hardRules", "LPlotwise$HardRules;", true)
  | 1 => ("Plotwise$Search", "costs", "LPlotwise$Costs;", true)
  | 2 => ("Plotwise$Search", "best", "LPlotwise$Best;", true)
  | _ => ("Plotwise$Search", "isStale", "Z", false)
def tyX6 : Nat → FieldType := fun k => match k with
  | 0 => .object "Plotwise$HardRules"
  | 1 => .object "Plotwise$Costs"
  | 2 => .object "Plotwise$Best"
  | _ => .boolean
abbrev wsX60 : List Cond := u_ws RX6 TX6 4
theorem nmX6 : ∀ a, a < 4 → ∀ b, b < 4 → a ≠ b → (TX6 a).2.1 ≠ (TX6 b).2.1 := by decide +kernel
theorem tyX6_ok : ∀ k, k < 4 → parseFieldDescriptor (TX6 k).2.2.1 = some (tyX6 k) := by decide +kernel
abbrev cX6_init : ByteArray := prog_8_method_1_code
def yX6_init : MethodName := ⟨RX6, "<init>", "(LPlotwise$HardRules;LPlotwise$Costs;)V"⟩
abbrev cX6_spoil : ByteArray := prog_8_method_2_code
def yX6_spoil : MethodName := ⟨RX6, "spoil", "()V"⟩
abbrev cX6_ranking : ByteArray := prog_8_method_3_code
def yX6_ranking : MethodName := ⟨RX6, "ranking", "()LPlotwise$Best;"⟩
abbrev cX6_searchFrom : ByteArray := prog_8_method_4_code
def yX6_searchFrom : MethodName := ⟨RX6, "searchFrom", "(I)V"⟩
abbrev cX6_offerSizes : ByteArray := prog_8_method_5_code
def yX6_offerSizes : MethodName := ⟨RX6, "offerSizes", "(I)V"⟩
abbrev cX6_isHopeless : ByteArray := prog_8_method_6_code
def yX6_isHopeless : MethodName := ⟨RX6, "isHopeless", "(I)Z"⟩
def RX7 : String := "Plotwise$Table"
def TX7 : u_T := fun k => match k with
  | 0 => ("Plotwise$Table", "values", "[I", true)
  | 1 => ("Plotwise$Table", "forcedKinds", "[I", true)
  | 2 => ("Plotwise$Table", "kinds", "[I", true)
  | 3 => ("Plotwise$Table", "counts", "[I", true)
  | 4 => ("Plotwise$Table", "differents", "[I", true)
  | 5 => ("Plotwise$Table", "sums", "[J", true)
  | 6 => ("Plotwise$Table", "gaps", "[J", true)
  | _ => ("Plotwise$Table", "rowCount", "I", false)
def tyX7 : Nat → FieldType := fun k => match k with
  | 0 => .array .int
  | 1 => .array .int
  | 2 => .array .int
  | 3 => .array .int
  | 4 => .array .int
  | 5 => .array .long
  | 6 => .array .long
  | _ => .int
abbrev wsX70 : List Cond := u_ws RX7 TX7 8
theorem nmX7 : ∀ a, a < 8 → ∀ b, b < 8 → a ≠ b → (TX7 a).2.1 ≠ (TX7 b).2.1 := by decide +kernel
theorem tyX7_ok : ∀ k, k < 8 → parseFieldDescriptor (TX7 k).2.2.1 = some (tyX7 k) := by decide +kernel
abbrev cX7_init : ByteArray := prog_9_method_1_code
def yX7_init : MethodName := ⟨RX7, "<init>", "()V"⟩
abbrev cX7_rowCount : ByteArray := prog_9_method_2_code
def yX7_rowCount : MethodName := ⟨RX7, "rowCount", "()I"⟩
abbrev cX7_hasRow : ByteArray := prog_9_method_3_code
def yX7_hasRow : MethodName := ⟨RX7, "hasRow", "(I)Z"⟩
abbrev cX7_valueAt : ByteArray := prog_9_method_4_code
def yX7_valueAt : MethodName := ⟨RX7, "valueAt", "(II)I"⟩
abbrev cX7_kindAt : ByteArray := prog_9_method_5_code
def yX7_kindAt : MethodName := ⟨RX7, "kindAt", "(I)I"⟩
abbrev cX7_forcedKindAt : ByteArray := prog_9_method_6_code
def yX7_forcedKindAt : MethodName := ⟨RX7, "forcedKindAt", "(I)I"⟩
abbrev cX7_countIn : ByteArray := prog_9_method_7_code
def yX7_countIn : MethodName := ⟨RX7, "countIn", "(I)I"⟩
abbrev cX7_differentIn : ByteArray := prog_9_method_8_code
def yX7_differentIn : MethodName := ⟨RX7, "differentIn", "(I)I"⟩
abbrev cX7_sumIn : ByteArray := prog_9_method_9_code
def yX7_sumIn : MethodName := ⟨RX7, "sumIn", "(I)J"⟩
abbrev cX7_gapsIn : ByteArray := prog_9_method_10_code
def yX7_gapsIn : MethodName := ⟨RX7, "gapsIn", "(I)J"⟩
abbrev cX7_isDullKind : ByteArray := prog_9_method_11_code
def yX7_isDullKind : MethodName := ⟨RX7, "isDullKind", "(I)Z"⟩
abbrev cX7_usableColumns : ByteArray := prog_9_method_12_code
def yX7_usableColumns : MethodName := ⟨RX7, "usableColumns", "()I"⟩
abbrev cX7_append : ByteArray := prog_9_method_13_code
def yX7_append : MethodName := ⟨RX7, "append", "(IIIIII)V"⟩
abbrev cX7_remove : ByteArray := prog_9_method_14_code
def yX7_remove : MethodName := ⟨RX7, "remove", "(I)V"⟩
abbrev cX7_change : ByteArray := prog_9_method_15_code
def yX7_change : MethodName := ⟨RX7, "change", "(III)V"⟩
abbrev cX7_setForcedKind : ByteArray := prog_9_method_16_code
def yX7_setForcedKind : MethodName := ⟨RX7, "setForcedKind", "(II)V"⟩
abbrev cX7_store : ByteArray := prog_9_method_17_code
def yX7_store : MethodName := ⟨RX7, "store", "(III)V"⟩
abbrev cX7_studyAll : ByteArray := prog_9_method_18_code
def yX7_studyAll : MethodName := ⟨RX7, "studyAll", "()V"⟩
abbrev cX7_study : ByteArray := prog_9_method_19_code
def yX7_study : MethodName := ⟨RX7, "study", "(I)V"⟩
abbrev cX7_isNewAt : ByteArray := prog_9_method_20_code
def yX7_isNewAt : MethodName := ⟨RX7, "isNewAt", "(II)Z"⟩
abbrev cX7_kindFrom : ByteArray := prog_9_method_21_code
def yX7_kindFrom : MethodName := ⟨RX7, "kindFrom", "(IIIZ)I"⟩
def RX8 : String := "Plotwise$Trial"
def TX8 : u_T := fun k => match k with
  | 0 => ("Plotwise$Trial", "hardRules", "LPlotwise$HardRules;", true)
  | 1 => ("Plotwise$Trial", "costs", "LPlotwise$Costs;", true)
  | 2 => ("Plotwise$Trial", "best", "LPlotwise$Best;", true)
  | 3 => ("Plotwise$Trial", "placements", "[I", true)
  | 4 => ("Plotwise$Trial", "allowedCount", "I", false)
  | _ => ("Plotwise$Trial", "betterCount", "I", false)
def tyX8 : Nat → FieldType := fun k => match k with
  | 0 => .object "Plotwise$HardRules"
  | 1 => .object "Plotwise$Costs"
  | 2 => .object "Plotwise$Best"
  | 3 => .array .int
  | 4 => .int
  | _ => .int
abbrev wsX80 : List Cond := u_ws RX8 TX8 6
theorem nmX8 : ∀ a, a < 6 → ∀ b, b < 6 → a ≠ b → (TX8 a).2.1 ≠ (TX8 b).2.1 := by decide +kernel
theorem tyX8_ok : ∀ k, k < 6 → parseFieldDescriptor (TX8 k).2.2.1 = some (tyX8 k) := by decide +kernel
abbrev cX8_init : ByteArray := prog_10_method_1_code
def yX8_init : MethodName := ⟨RX8, "<init>", "(LPlotwise$HardRules;LPlotwise$Costs;)V"⟩
abbrev cX8_ranking : ByteArray := prog_10_method_2_code
def yX8_ranking : MethodName := ⟨RX8, "ranking", "()LPlotwise$Best;"⟩
abbrev cX8_allowedCount : ByteArray := prog_10_method_3_code
def yX8_allowedCount : MethodName := ⟨RX8, "allowedCount", "()I"⟩
abbrev cX8_run : ByteArray := prog_10_method_5_code
def yX8_run : MethodName := ⟨RX8, "run", "()V"⟩
abbrev cX8_tryAll : ByteArray := prog_10_method_6_code
def yX8_tryAll : MethodName := ⟨RX8, "tryAll", "(J)V"⟩
abbrev cX8_tryPlacement : ByteArray := prog_10_method_7_code
def yX8_tryPlacement : MethodName := ⟨RX8, "tryPlacement", "(IJ)V"⟩
abbrev cX8_listPlacements : ByteArray := prog_10_method_8_code
def yX8_listPlacements : MethodName := ⟨RX8, "listPlacements", "()[I"⟩
def RX9 : String := "Plotwise"
def TX9 : u_T := fun k => match k with
  | 0 => ("Plotwise", "table", "LPlotwise$Table;", true)
  | 1 => ("Plotwise", "hardRules", "LPlotwise$HardRules;", true)
  | 2 => ("Plotwise", "costs", "LPlotwise$Costs;", true)
  | 3 => ("Plotwise", "search", "LPlotwise$Search;", true)
  | 4 => ("Plotwise", "trial", "LPlotwise$Trial;", true)
  | 5 => ("Plotwise", "picks", "LPlotwise$Picks;", true)
  | 6 => ("Plotwise", "margin", "I", false)
  | _ => ("Plotwise", "draft", "I", false)
def tyX9 : Nat → FieldType := fun k => match k with
  | 0 => .object "Plotwise$Table"
  | 1 => .object "Plotwise$HardRules"
  | 2 => .object "Plotwise$Costs"
  | 3 => .object "Plotwise$Search"
  | 4 => .object "Plotwise$Trial"
  | 5 => .object "Plotwise$Picks"
  | 6 => .int
  | _ => .int
abbrev wsX90 : List Cond := u_ws RX9 TX9 8
theorem nmX9 : ∀ a, a < 8 → ∀ b, b < 8 → a ≠ b → (TX9 a).2.1 ≠ (TX9 b).2.1 := by decide +kernel
theorem tyX9_ok : ∀ k, k < 8 → parseFieldDescriptor (TX9 k).2.2.1 = some (tyX9 k) := by decide +kernel
abbrev cX9_init : ByteArray := prog_1_method_1_code
def yX9_init : MethodName := ⟨RX9, "<init>", "()V"⟩
abbrev cX9_addRow : ByteArray := prog_1_method_2_code
def yX9_addRow : MethodName := ⟨RX9, "addRow", "(IIIIII)I"⟩
abbrev cX9_dropRow : ByteArray := prog_1_method_3_code
def yX9_dropRow : MethodName := ⟨RX9, "dropRow", "(I)I"⟩
abbrev cX9_put : ByteArray := prog_1_method_4_code
def yX9_put : MethodName := ⟨RX9, "put", "(III)I"⟩
abbrev cX9_rows : ByteArray := prog_1_method_5_code
def yX9_rows : MethodName := ⟨RX9, "rows", "()I"⟩
abbrev cX9_different : ByteArray := prog_1_method_6_code
def yX9_different : MethodName := ⟨RX9, "different", "(I)I"⟩
abbrev cX9_sumOf : ByteArray := prog_1_method_7_code
def yX9_sumOf : MethodName := ⟨RX9, "sumOf", "(I)J"⟩
abbrev cX9_meanOf : ByteArray := prog_1_method_8_code
def yX9_meanOf : MethodName := ⟨RX9, "meanOf", "(I)D"⟩
abbrev cX9_filled : ByteArray := prog_1_method_9_code
def yX9_filled : MethodName := ⟨RX9, "filled", "(I)F"⟩
abbrev cX9_kindOf : ByteArray := prog_1_method_10_code
def yX9_kindOf : MethodName := ⟨RX9, "kindOf", "(I)I"⟩
abbrev cX9_force : ByteArray := prog_1_method_11_code
def yX9_force : MethodName := ⟨RX9, "force", "(II)I"⟩
abbrev cX9_unforce : ByteArray := prog_1_method_12_code
def yX9_unforce : MethodName := ⟨RX9, "unforce", "(I)I"⟩
abbrev cX9_wish : ByteArray := prog_1_method_13_code
def yX9_wish : MethodName := ⟨RX9, "wish", "(IZ)I"⟩
abbrev cX9_wishMark : ByteArray := prog_1_method_14_code
def yX9_wishMark : MethodName := ⟨RX9, "wishMark", "(C)C"⟩
abbrev cX9_forbid : ByteArray := prog_1_method_15_code
def yX9_forbid : MethodName := ⟨RX9, "forbid", "(II)I"⟩
abbrev cX9_allow : ByteArray := prog_1_method_16_code
def yX9_allow : MethodName := ⟨RX9, "allow", "(II)I"⟩
abbrev cX9_setWeight : ByteArray := prog_1_method_17_code
def yX9_setWeight : MethodName := ⟨RX9, "setWeight", "(II)I"⟩
abbrev cX9_allowed : ByteArray := prog_1_method_18_code
def yX9_allowed : MethodName := ⟨RX9, "allowed", "()I"⟩
abbrev cX9_cost : ByteArray := prog_1_method_19_code
def yX9_cost : MethodName := ⟨RX9, "cost", "(I)I"⟩
abbrev cX9_costByTrying : ByteArray := prog_1_method_20_code
def yX9_costByTrying : MethodName := ⟨RX9, "costByTrying", "(I)I"⟩
abbrev cX9_mark : ByteArray := prog_1_method_21_code
def yX9_mark : MethodName := ⟨RX9, "mark", "(I)C"⟩
abbrev cX9_aggregate : ByteArray := prog_1_method_22_code
def yX9_aggregate : MethodName := ⟨RX9, "aggregate", "(I)I"⟩
abbrev cX9_column : ByteArray := prog_1_method_23_code
def yX9_column : MethodName := ⟨RX9, "column", "(II)I"⟩
abbrev cX9_isSound : ByteArray := prog_1_method_39_code
def yX9_isSound : MethodName := ⟨RX9, "isSound", "()Z"⟩
abbrev cX9_isValue : ByteArray := prog_1_method_40_code
def yX9_isValue : MethodName := ⟨RX9, "isValue", "(I)Z"⟩
abbrev cX9_isColumn : ByteArray := prog_1_method_41_code
def yX9_isColumn : MethodName := ⟨RX9, "isColumn", "(I)Z"⟩
abbrev cX9_isChannel : ByteArray := prog_1_method_42_code
def yX9_isChannel : MethodName := ⟨RX9, "isChannel", "(I)Z"⟩
abbrev cX9_isMark : ByteArray := prog_1_method_43_code
def yX9_isMark : MethodName := ⟨RX9, "isMark", "(C)Z"⟩
abbrev cX9_requireColumn : ByteArray := prog_1_method_44_code
def yX9_requireColumn : MethodName := ⟨RX9, "requireColumn", "(I)V"⟩
abbrev cX9_requireChannel : ByteArray := prog_1_method_45_code
def yX9_requireChannel : MethodName := ⟨RX9, "requireChannel", "(I)V"⟩
abbrev cX9_requirePair : ByteArray := prog_1_method_46_code
def yX9_requirePair : MethodName := ⟨RX9, "requirePair", "(II)V"⟩
abbrev cX9_requireRank : ByteArray := prog_1_method_47_code
def yX9_requireRank : MethodName := ⟨RX9, "requireRank", "(LPlotwise$Best;I)V"⟩
abbrev cX9_isRankingAllowed : ByteArray := prog_1_method_51_code
def yX9_isRankingAllowed : MethodName := ⟨RX9, "isRankingAllowed", "(LPlotwise$Best;)Z"⟩
abbrev cX9_isRankingInOrder : ByteArray := prog_1_method_52_code
def yX9_isRankingInOrder : MethodName := ⟨RX9, "isRankingInOrder", "(LPlotwise$Best;)Z"⟩
abbrev cX9_isFirstConfirmed : ByteArray := prog_1_method_53_code
def yX9_isFirstConfirmed : MethodName := ⟨RX9, "isFirstConfirmed", "(LPlotwise$Best;LPlotwise$Best;)Z"⟩
def RX10 : String := "PlotwiseModel"
def TX10 : u_T := fun k => match k with
  | _ => ("", "", "", false)
def tyX10 : Nat → FieldType := fun k => match k with
  | _ => .int
abbrev wsX100 : List Cond := u_ws RX10 TX10 0
theorem nmX10 : ∀ a, a < 0 → ∀ b, b < 0 → a ≠ b → (TX10 a).2.1 ≠ (TX10 b).2.1 := by decide +kernel
theorem tyX10_ok : ∀ k, k < 0 → parseFieldDescriptor (TX10 k).2.2.1 = some (tyX10 k) := by decide +kernel
def RJ6 : String := "java/lang/Integer"
abbrev cJ6_bitCount_0f7a4 : ByteArray := prog_21_method_49_code
def yJ6_bitCount_0f7a4 : MethodName := ⟨RJ6, "bitCount", "(I)I"⟩
def RJ13 : String := "java/lang/Long"
abbrev cJ13_bitCount_95d88 : ByteArray := prog_22_method_50_code
def yJ13_bitCount_95d88 : MethodName := ⟨RJ13, "bitCount", "(J)I"⟩
def RL : String := "PlotwiseLaw"
abbrev cL_cell : ByteArray := method_2_code
def yL_cell : MethodName := ⟨RL, "cell", "([II)I"⟩
abbrev cL_addRow : ByteArray := method_3_code
def yL_addRow : MethodName := ⟨RL, "addRow", "(LPlotwise;IIIIII)I"⟩
abbrev cL_dropRow : ByteArray := method_4_code
def yL_dropRow : MethodName := ⟨RL, "dropRow", "(LPlotwise;I)I"⟩
abbrev cL_put : ByteArray := method_5_code
def yL_put : MethodName := ⟨RL, "put", "(LPlotwise;III)I"⟩
abbrev cL_different : ByteArray := method_6_code
def yL_different : MethodName := ⟨RL, "different", "(LPlotwise;I)I"⟩
abbrev cL_sumOf : ByteArray := method_7_code
def yL_sumOf : MethodName := ⟨RL, "sumOf", "(LPlotwise;I)J"⟩
abbrev cL_meanOf : ByteArray := method_8_code
def yL_meanOf : MethodName := ⟨RL, "meanOf", "(LPlotwise;I)D"⟩
abbrev cL_filled : ByteArray := method_9_code
def yL_filled : MethodName := ⟨RL, "filled", "(LPlotwise;I)F"⟩
abbrev cL_kindOf : ByteArray := method_10_code
def yL_kindOf : MethodName := ⟨RL, "kindOf", "(LPlotwise;I)I"⟩
abbrev cL_force : ByteArray := method_11_code
def yL_force : MethodName := ⟨RL, "force", "(LPlotwise;II)I"⟩
abbrev cL_unforce : ByteArray := method_12_code
def yL_unforce : MethodName := ⟨RL, "unforce", "(LPlotwise;I)I"⟩
abbrev cL_wish : ByteArray := method_13_code
def yL_wish : MethodName := ⟨RL, "wish", "(LPlotwise;IZ)I"⟩
abbrev cL_wishMark : ByteArray := method_14_code
def yL_wishMark : MethodName := ⟨RL, "wishMark", "(LPlotwise;C)I"⟩
abbrev cL_forbid : ByteArray := method_15_code
def yL_forbid : MethodName := ⟨RL, "forbid", "(LPlotwise;II)I"⟩
abbrev cL_allow : ByteArray := method_16_code
def yL_allow : MethodName := ⟨RL, "allow", "(LPlotwise;II)I"⟩
abbrev cL_setWeight : ByteArray := method_17_code
def yL_setWeight : MethodName := ⟨RL, "setWeight", "(LPlotwise;II)I"⟩
abbrev cL_cost : ByteArray := method_18_code
def yL_cost : MethodName := ⟨RL, "cost", "(LPlotwise;I)I"⟩
abbrev cL_costByTrying : ByteArray := method_19_code
def yL_costByTrying : MethodName := ⟨RL, "costByTrying", "(LPlotwise;I)I"⟩
abbrev cL_mark : ByteArray := method_20_code
def yL_mark : MethodName := ⟨RL, "mark", "(LPlotwise;I)I"⟩
abbrev cL_aggregate : ByteArray := method_21_code
def yL_aggregate : MethodName := ⟨RL, "aggregate", "(LPlotwise;I)I"⟩
abbrev cL_column : ByteArray := method_22_code
def yL_column : MethodName := ⟨RL, "column", "(LPlotwise;II)I"⟩
abbrev cL_in : ByteArray := method_23_code
def yL_in : MethodName := ⟨RL, "in", "([III)I"⟩
abbrev cL_begun : ByteArray := method_24_code
def yL_begun : MethodName := ⟨RL, "begun", "()[I"⟩
abbrev cL_value : ByteArray := method_25_code
def yL_value : MethodName := ⟨RL, "value", "([III)I"⟩
abbrev cL_made : ByteArray := method_26_code
def yL_made : MethodName := ⟨RL, "made", "([I[III)I"⟩
abbrev cL_isRow : ByteArray := method_27_code
def yL_isRow : MethodName := ⟨RL, "isRow", "(LPlotwise;[I[II)Z"⟩
abbrev cL_many : ByteArray := method_28_code
def yL_many : MethodName := ⟨RL, "many", "([II)I"⟩
abbrev cL_different_ : ByteArray := method_29_code
def yL_different_ : MethodName := ⟨RL, "different", "([II)I"⟩
abbrev cL_kind : ByteArray := method_30_code
def yL_kind : MethodName := ⟨RL, "kind", "([II)I"⟩
abbrev cL_kinds : ByteArray := method_31_code
def yL_kinds : MethodName := ⟨RL, "kinds", "([I)[I"⟩
abbrev cL_isOf : ByteArray := method_32_code
def yL_isOf : MethodName := ⟨RL, "isOf", "([IIII)Z"⟩
abbrev cL_keeps : ByteArray := method_33_code
def yL_keeps : MethodName := ⟨RL, "keeps", "([I[II[I)Z"⟩
abbrev cL_broken : ByteArray := method_34_code
def yL_broken : MethodName := ⟨RL, "broken", "([I[I[I)I"⟩
abbrev cL_softs : ByteArray := method_35_code
def yL_softs : MethodName := ⟨RL, "softs", "([I[I[I)I"⟩
abbrev cL_cost_ : ByteArray := method_36_code
def yL_cost_ : MethodName := ⟨RL, "cost", "([I[I[I)I"⟩
abbrev cL_place : ByteArray := method_37_code
def yL_place : MethodName := ⟨RL, "place", "([I)I"⟩
abbrev cL_chart : ByteArray := method_38_code
def yL_chart : MethodName := ⟨RL, "chart", "(I)[I"⟩
abbrev cL_ranked : ByteArray := method_39_code
def yL_ranked : MethodName := ⟨RL, "ranked", "([I)[J"⟩
abbrev cL_isSet : ByteArray := method_40_code
def yL_isSet : MethodName := ⟨RL, "isSet", "(LPlotwise;[I[II)Z"⟩
abbrev cL_isForbidden : ByteArray := method_41_code
def yL_isForbidden : MethodName := ⟨RL, "isForbidden", "(LPlotwise;[IIIZ)Z"⟩
abbrev cL_begun_ : ByteArray := method_42_code
def yL_begun_ : MethodName := ⟨RL, "begun", "([I[I)LPlotwise;"⟩
abbrev cL_isTable : ByteArray := method_43_code
def yL_isTable : MethodName := ⟨RL, "isTable", "(LPlotwise;[I)Z"⟩
abbrev cL_isRanked : ByteArray := method_44_code
def yL_isRanked : MethodName := ⟨RL, "isRanked", "(LPlotwise;[I)Z"⟩
abbrev cL_law : ByteArray := code
def yL_law : MethodName := ⟨RL, "law", "([I)Z"⟩
end
section
/-! the methods by numbers -/
def mYl : List MethodName := [yX0_init, yX0_size, yX0_hasRank, yX0_placeAt, yX0_chartAt, yX0_clear, yX0_isOutOfReach, yX0_offer, yX1_bare, yX1_markOf, yX1_aggregateOf, yX1_columnIn, yX1_withColumn, yX1_columnSet, yX1_holds, yX1_isPlacement, yX2_init, yX2_hasRule, yX2_exchangeWeight, yX2_costOf, yX2_brokenSoftRules, yX2_bit, yX2_channelCost, yX3_init, yX3_wishColumn, yX3_exchangeWishedMark, yX3_isForbidden, yX3_turnForbidden, yX3_allows, yX3_firstBroken, yX3_hasDullColumn, yX3_hasForbiddenColumn, yX3_isAsWished, yX4_init, yX5_of, yX5_costOf, yX5_chartOf, yX6_init, yX6_spoil, yX6_ranking, yX6_searchFrom, yX6_offerSizes, yX6_isHopeless, yX7_init, yX7_rowCount, yX7_hasRow, yX7_valueAt, yX7_kindAt, yX7_forcedKindAt, yX7_countIn, yX7_differentIn, yX7_sumIn, yX7_gapsIn, yX7_isDullKind, yX7_usableColumns, yX7_append, yX7_remove, yX7_change, yX7_setForcedKind, yX7_store, yX7_studyAll, yX7_study, yX7_isNewAt, yX7_kindFrom, yX8_init, yX8_ranking, yX8_allowedCount, yX8_run, yX8_tryAll, yX8_tryPlacement, yX8_listPlacements, yX9_init, yX9_addRow, yX9_dropRow, yX9_put, yX9_rows, yX9_different, yX9_sumOf, yX9_meanOf, yX9_filled, yX9_kindOf, yX9_force, yX9_unforce, yX9_wish, yX9_wishMark, yX9_forbid, yX9_allow, yX9_setWeight, yX9_allowed, yX9_cost, yX9_costByTrying, yX9_mark, yX9_aggregate, yX9_column, yX9_isSound, yX9_isValue, yX9_isColumn, yX9_isChannel, yX9_isMark, yX9_requireColumn, yX9_requireChannel, yX9_requirePair, yX9_requireRank, yX9_isRankingAllowed, yX9_isRankingInOrder, yX9_isFirstConfirmed, yJ6_bitCount_0f7a4, yJ13_bitCount_95d88, yL_cell, yL_addRow, yL_dropRow, yL_put, yL_different, yL_sumOf, yL_meanOf, yL_filled, yL_kindOf, yL_force, yL_unforce, yL_wish, yL_wishMark, yL_forbid, yL_allow, yL_setWeight, yL_cost, yL_costByTrying, yL_mark, yL_aggregate, yL_column, yL_in, yL_begun, yL_value, yL_made, yL_isRow, yL_many, yL_different_, yL_kind, yL_kinds, yL_isOf, yL_keeps, yL_broken, yL_softs, yL_cost_, yL_place, yL_chart, yL_ranked, yL_isSet, yL_isForbidden, yL_begun_, yL_isTable, yL_isRanked, yL_law]
def mBl : List ByteArray := [cX0_init, cX0_size, cX0_hasRank, cX0_placeAt, cX0_chartAt, cX0_clear, cX0_isOutOfReach, cX0_offer, cX1_bare, cX1_markOf, cX1_aggregateOf, cX1_columnIn, cX1_withColumn, cX1_columnSet, cX1_holds, cX1_isPlacement, cX2_init, cX2_hasRule, cX2_exchangeWeight, cX2_costOf, cX2_brokenSoftRules, cX2_bit, cX2_channelCost, cX3_init, cX3_wishColumn, cX3_exchangeWishedMark, cX3_isForbidden, cX3_turnForbidden, cX3_allows, cX3_firstBroken, cX3_hasDullColumn, cX3_hasForbiddenColumn, cX3_isAsWished, cX4_init, cX5_of, cX5_costOf, cX5_chartOf, cX6_init, cX6_spoil, cX6_ranking, cX6_searchFrom, cX6_offerSizes, cX6_isHopeless, cX7_init, cX7_rowCount, cX7_hasRow, cX7_valueAt, cX7_kindAt, cX7_forcedKindAt, cX7_countIn, cX7_differentIn, cX7_sumIn, cX7_gapsIn, cX7_isDullKind, cX7_usableColumns, cX7_append, cX7_remove, cX7_change, cX7_setForcedKind, cX7_store, cX7_studyAll, cX7_study, cX7_isNewAt, cX7_kindFrom, cX8_init, cX8_ranking, cX8_allowedCount, cX8_run, cX8_tryAll, cX8_tryPlacement, cX8_listPlacements, cX9_init, cX9_addRow, cX9_dropRow, cX9_put, cX9_rows, cX9_different, cX9_sumOf, cX9_meanOf, cX9_filled, cX9_kindOf, cX9_force, cX9_unforce, cX9_wish, cX9_wishMark, cX9_forbid, cX9_allow, cX9_setWeight, cX9_allowed, cX9_cost, cX9_costByTrying, cX9_mark, cX9_aggregate, cX9_column, cX9_isSound, cX9_isValue, cX9_isColumn, cX9_isChannel, cX9_isMark, cX9_requireColumn, cX9_requireChannel, cX9_requirePair, cX9_requireRank, cX9_isRankingAllowed, cX9_isRankingInOrder, cX9_isFirstConfirmed, cJ6_bitCount_0f7a4, cJ13_bitCount_95d88, cL_cell, cL_addRow, cL_dropRow, cL_put, cL_different, cL_sumOf, cL_meanOf, cL_filled, cL_kindOf, cL_force, cL_unforce, cL_wish, cL_wishMark, cL_forbid, cL_allow, cL_setWeight, cL_cost, cL_costByTrying, cL_mark, cL_aggregate, cL_column, cL_in, cL_begun, cL_value, cL_made, cL_isRow, cL_many, cL_different_, cL_kind, cL_kinds, cL_isOf, cL_keeps, cL_broken, cL_softs, cL_cost_, cL_place, cL_chart, cL_ranked, cL_isSet, cL_isForbidden, cL_begun_, cL_isTable, cL_isRanked, cL_law]
def mLl : List Nat := [1, 1, 2, 2, 2, 1, 3, 4, 2, 1, 1, 2, 4, 3, 2, 4, 2, 2, 4, 7, 10, 2, 3, 2, 4, 3, 3, 3, 2, 8, 3, 3, 3, 1, 2, 2, 2, 3, 1, 6, 8, 4, 3, 2, 1, 2, 3, 2, 2, 2, 2, 2, 2, 1, 3, 8, 4, 4, 3, 4, 2, 12, 5, 4, 3, 1, 1, 1, 7, 12, 3, 1, 8, 2, 5, 1, 2, 2, 3, 3, 2, 3, 2, 3, 2, 3, 3, 3, 1, 3, 3, 3, 3, 4, 2, 1, 1, 1, 1, 1, 1, 2, 2, 3, 5, 3, 1, 2, 3, 8, 3, 5, 3, 3, 3, 3, 3, 4, 3, 4, 3, 4, 4, 4, 3, 3, 3, 3, 4, 3, 3, 3, 5, 6, 4, 5, 8, 3, 4, 11, 4, 7, 10, 3, 4, 14, 7, 8, 5, 7, 11, 5]
def mRl : List (Option FieldType) := [none, (some .int), (some .boolean), (some .long), (some .int), none, (some .boolean), none, (some .int), (some .char), (some .int), (some .int), (some .int), (some .int), (some .boolean), (some .boolean), none, (some .boolean), (some .int), (some .int), (some .int), (some .int), (some .int), none, (some .int), (some .char), (some .boolean), (some .int), (some .boolean), (some .int), (some .boolean), (some .boolean), (some .boolean), none, (some .long), (some .int), (some .int), none, none, (some (.object "Plotwise$Best")), none, none, (some .boolean), none, (some .int), (some .boolean), (some .int), (some .int), (some .int), (some .int), (some .int), (some .long), (some .long), (some .boolean), (some .int), none, none, none, none, none, none, none, (some .boolean), (some .int), none, (some (.object "Plotwise$Best")), (some .int), none, none, none, (some (.array .int)), none, (some .int), (some .int), (some .int), (some .int), (some .int), (some .long), (some .double), (some .float), (some .int), (some .int), (some .int), (some .int), (some .char), (some .int), (some .int), (some .int), (some .int), (some .int), (some .int), (some .char), (some .int), (some .int), (some .boolean), (some .boolean), (some .boolean), (some .boolean), (some .boolean), none, none, none, none, (some .boolean), (some .boolean), (some .boolean), (some .int), (some .int), (some .int), (some .int), (some .int), (some .int), (some .int), (some .long), (some .double), (some .float), (some .int), (some .int), (some .int), (some .int), (some .int), (some .int), (some .int), (some .int), (some .int), (some .int), (some .int), (some .int), (some .int), (some .int), (some (.array .int)), (some .int), (some .int), (some .boolean), (some .int), (some .int), (some .int), (some (.array .int)), (some .boolean), (some .boolean), (some .int), (some .int), (some .int), (some .int), (some (.array .int)), (some (.array .long)), (some .boolean), (some .boolean), (some (.object "Plotwise")), (some .boolean), (some .boolean), (some .boolean)]
def mHl : List (List (Nat × Nat × Nat × Nat)) := [[], [], [], [], [], [], [], [], [], [], [], [], [], [], [], [], [], [], [], [], [], [], [], [], [], [], [], [], [], [], [], [], [], [], [], [], [], [], [], [], [], [], [], [], [], [], [], [], [], [], [], [], [], [], [], [], [], [], [], [], [], [], [], [], [], [], [], [], [], [], [], [], [], [], [], [], [], [], [], [], [], [], [], [], [], [], [], [], [], [], [], [], [], [], [], [], [], [], [], [], [], [], [], [], [], [], [], [], [], [(0, 13, 14, 15), (0, 13, 19, 18)], [(0, 5, 6, 25)], [(0, 7, 8, 25), (0, 7, 13, 15)], [(0, 5, 6, 25)], [(0, 5, 6, 25)], [(0, 5, 6, 25), (0, 5, 11, 46)], [(0, 5, 6, 25), (0, 5, 10, 46)], [(0, 5, 6, 25)], [(0, 6, 7, 25), (0, 6, 11, 15)], [(0, 5, 6, 25), (0, 5, 10, 18)], [(0, 6, 7, 25)], [(0, 5, 6, 15)], [(0, 6, 7, 25), (0, 6, 11, 18)], [(0, 6, 7, 25), (0, 6, 11, 18)], [(0, 6, 7, 25), (0, 6, 11, 15)], [(0, 5, 6, 86)], [(0, 5, 6, 91), (0, 5, 10, 86)], [(0, 5, 6, 86)], [(0, 5, 6, 86)], [(0, 6, 7, 86), (0, 6, 11, 25)], [], [], [], [], [], [], [], [], [], [], [], [], [], [], [], [], [], [], [], [], [], [], []]
def mNl : List Nat := [0, 0, 1, 1, 1, 0, 1, 1, 2, 1, 1, 2, 3, 1, 2, 1, 1, 1, 2, 1, 1, 2, 2, 1, 2, 1, 2, 2, 1, 1, 1, 1, 1, 0, 2, 1, 1, 2, 0, 0, 1, 1, 1, 0, 0, 1, 2, 1, 1, 1, 1, 1, 1, 1, 0, 6, 1, 3, 2, 3, 0, 1, 2, 4, 2, 0, 0, 0, 1, 2, 0, 0, 6, 1, 3, 0, 1, 1, 1, 1, 1, 2, 1, 2, 1, 2, 2, 2, 0, 1, 1, 1, 1, 2, 0, 1, 1, 1, 1, 1, 1, 2, 2, 1, 1, 2, 1, 1, 2, 7, 2, 4, 2, 2, 2, 2, 2, 3, 2, 3, 2, 3, 3, 3, 2, 2, 2, 2, 3, 3, 0, 3, 4, 4, 2, 2, 2, 1, 4, 4, 3, 3, 3, 1, 1, 1, 4, 5, 2, 2, 2, 1]
def mVl : List Nat := [1, 0, 0, 1, 2, 0, 0, 1, 0, 0, 0, 0, 0, 0, 1, 1, 1, 0, 1, 3, 2, 0, 0, 1, 1, 0, 0, 1, 3, 2, 1, 1, 1, 1, 0, 0, 0, 2, 0, 6, 5, 4, 4, 1, 0, 0, 1, 0, 1, 1, 1, 1, 1, 0, 1, 5, 5, 4, 4, 1, 4, 3, 2, 0, 3, 0, 0, 6, 5, 4, 2, 4, 6, 6, 6, 1, 7, 7, 7, 7, 7, 7, 7, 7, 6, 8, 8, 6, 7, 7, 7, 7, 7, 7, 7, 0, 0, 0, 0, 6, 6, 7, 6, 4, 4, 4, 0, 0, 0, 7, 7, 7, 8, 8, 8, 8, 8, 8, 8, 8, 7, 9, 9, 7, 8, 8, 8, 8, 8, 1, 0, 0, 2, 8, 1, 1, 2, 3, 0, 1, 2, 1, 2, 0, 0, 4, 11, 10, 9, 9, 9, 20]
def mCl : List Nat := [1, 0, 0, 0, 0, 0, 0, 0, 0, 0, 0, 0, 0, 0, 0, 0, 1, 0, 0, 0, 0, 0, 0, 0, 0, 0, 0, 0, 0, 0, 0, 0, 0, 1, 0, 0, 0, 2, 0, 0, 0, 0, 0, 7, 0, 0, 0, 0, 0, 0, 0, 0, 0, 0, 0, 0, 0, 0, 0, 0, 0, 0, 0, 0, 3, 0, 0, 0, 0, 0, 1, 20, 2, 1, 2, 0, 1, 1, 2, 2, 1, 2, 2, 1, 1, 3, 3, 2, 0, 1, 2, 1, 1, 2, 0, 0, 0, 0, 0, 1, 1, 2, 1, 0, 0, 0, 0, 0, 0, 2, 1, 2, 1, 1, 2, 2, 1, 2, 2, 1, 1, 3, 3, 2, 1, 2, 1, 1, 2, 0, 2, 0, 0, 5, 0, 0, 0, 1, 0, 0, 0, 0, 1, 0, 1, 86438, 25, 6, 221, 42, 86522, 260946]
def mSl : List Nat := [5, 0, 0, 0, 0, 0, 0, 0, 0, 0, 0, 0, 0, 0, 0, 0, 8, 0, 0, 0, 0, 0, 0, 0, 0, 0, 0, 0, 0, 0, 0, 0, 0, 4, 0, 0, 0, 7, 0, 0, 0, 0, 0, 276, 0, 0, 0, 0, 0, 0, 0, 0, 0, 0, 0, 0, 0, 0, 0, 0, 0, 0, 0, 0, 1052, 0, 0, 0, 0, 0, 1045, 1374, 12, 6, 12, 0, 6, 6, 12, 12, 6, 12, 12, 6, 6, 18, 18, 12, 0, 6, 12, 6, 6, 12, 0, 0, 0, 0, 0, 6, 6, 12, 6, 0, 0, 0, 0, 0, 0, 12, 6, 12, 6, 6, 12, 12, 6, 12, 12, 6, 6, 18, 18, 12, 6, 12, 6, 6, 12, 0, 408, 0, 0, 30, 0, 0, 0, 12, 0, 0, 0, 0, 12, 0, 6, 648288, 150, 36, 2582, 252, 648792, 1958820]
def mAl : List Nat := [1, 0, 0, 0, 0, 0, 0, 0, 0, 0, 0, 0, 0, 0, 0, 0, 1, 0, 0, 0, 0, 0, 0, 0, 0, 0, 0, 0, 0, 0, 0, 0, 0, 1, 0, 0, 0, 1, 0, 0, 0, 0, 0, 1, 0, 0, 0, 0, 0, 0, 0, 0, 0, 0, 0, 0, 0, 0, 0, 0, 0, 0, 0, 0, 1, 0, 0, 0, 0, 0, 1, 1, 0, 0, 0, 0, 0, 0, 0, 0, 0, 0, 0, 0, 0, 0, 0, 0, 0, 0, 0, 0, 0, 0, 0, 0, 0, 0, 0, 0, 0, 0, 0, 0, 0, 0, 0, 0, 0, 0, 0, 0, 0, 0, 0, 0, 0, 0, 0, 0, 0, 0, 0, 0, 0, 0, 0, 0, 0, 0, 1, 0, 0, 1, 0, 0, 0, 1, 0, 0, 0, 0, 1, 0, 1, 1, 1, 0, 1, 0, 1, 1]
def mDl : List Nat := [0, 0, 0, 0, 0, 0, 0, 0, 1, 1, 1, 1, 1, 1, 1, 1, 2, 2, 2, 2, 2, 2, 2, 3, 3, 3, 3, 3, 3, 3, 3, 3, 3, 4, 5, 5, 5, 6, 6, 6, 6, 6, 6, 7, 7, 7, 7, 7, 7, 7, 7, 7, 7, 7, 7, 7, 7, 7, 7, 7, 7, 7, 7, 7, 8, 8, 8, 8, 8, 8, 8, 9, 9, 9, 9, 9, 9, 9, 9, 9, 9, 9, 9, 9, 9, 9, 9, 9, 9, 9, 9, 9, 9, 9, 9, 9, 9, 9, 9, 9, 9, 9, 9, 9, 9, 9, 10, 11, 12, 12, 12, 12, 12, 12, 12, 12, 12, 12, 12, 12, 12, 12, 12, 12, 12, 12, 12, 12, 12, 12, 12, 12, 12, 12, 12, 12, 12, 12, 12, 12, 12, 12, 12, 12, 12, 12, 12, 12, 12, 12, 12, 12]
def dNl : List String := [RX0, RX1, RX2, RX3, RX4, RX5, RX6, RX7, RX8, RX9, RJ6, RJ13, RL]
def mKl : List Nat := [2, 1, 1, 1, 1, 1, 1, 1, 0, 0, 0, 0, 0, 0, 0, 0, 2, 1, 1, 1, 1, 0, 0, 2, 1, 1, 1, 1, 1, 1, 1, 1, 1, 2, 0, 0, 0, 2, 1, 1, 1, 1, 1, 2, 1, 1, 1, 1, 1, 1, 1, 1, 1, 0, 1, 1, 1, 1, 1, 1, 1, 1, 1, 0, 2, 1, 1, 1, 1, 1, 0, 2, 1, 1, 1, 1, 1, 1, 1, 1, 1, 1, 1, 1, 1, 1, 1, 1, 1, 1, 1, 1, 1, 1, 1, 0, 0, 0, 0, 0, 0, 0, 0, 1, 1, 1, 0, 0, 0, 0, 0, 0, 0, 0, 0, 0, 0, 0, 0, 0, 0, 0, 0, 0, 0, 0, 0, 0, 0, 0, 0, 0, 0, 0, 0, 0, 0, 0, 0, 0, 0, 0, 0, 0, 0, 0, 0, 0, 0, 0, 0, 0]
def mOl : List Nat := [0, 0, 0, 0, 0, 0, 0, 0, 99, 99, 99, 99, 99, 99, 99, 99, 1, 1, 1, 1, 1, 1, 1, 2, 2, 2, 2, 2, 2, 2, 2, 2, 2, 3, 99, 99, 99, 4, 4, 4, 4, 4, 4, 5, 5, 5, 5, 5, 5, 5, 5, 5, 5, 5, 5, 5, 5, 5, 5, 5, 5, 5, 5, 5, 6, 6, 6, 6, 6, 6, 6, 7, 7, 7, 7, 7, 7, 7, 7, 7, 7, 7, 7, 7, 7, 7, 7, 7, 7, 7, 7, 7, 7, 7, 7, 7, 7, 7, 7, 7, 7, 7, 7, 7, 7, 7, 99, 99, 99, 99, 99, 99, 99, 99, 99, 99, 99, 99, 99, 99, 99, 99, 99, 99, 99, 99, 99, 99, 99, 99, 99, 99, 99, 99, 99, 99, 99, 99, 99, 99, 99, 99, 99, 99, 99, 99, 99, 99, 99, 99, 99, 99]
abbrev NM : Nat := 152
def mY (i : Nat) : MethodName := mYl.getD i yX0_init
def mB (i : Nat) : ByteArray := mBl.getD i cX0_init
def mL (i : Nat) : Nat := mLl.getD i 0
def mR (i : Nat) : Option FieldType := mRl.getD i none
def mH (i : Nat) : List (Nat × Nat × Nat × Nat) := mHl.getD i []
def mN (i : Nat) : Nat := mNl.getD i 0
def mV (i : Nat) : Nat := mVl.getD i 0
def mC (i : Nat) : Nat := mCl.getD i 0
def mS (i : Nat) : Nat := mSl.getD i 0
def mK (i : Nat) : Nat := mKl.getD i 9
def mO (i : Nat) : Nat := mOl.getD i 99
def mA (i : Nat) : Nat := mAl.getD i 1
def mD (i : Nat) : Nat := mDl.getD i 99
def dN (i : Nat) : String := dNl.getD i ""
def kcl : List vw_C := [(RX0, TX0, 2), (RX2, TX2, 2), (RX3, TX3, 4), (RX4, TX4, 3), (RX6, TX6, 4), (RX7, TX7, 8), (RX8, TX8, 6), (RX9, TX9, 8)]
def kty : List (Nat → FieldType) := [tyX0, tyX2, tyX3, tyX4, tyX6, tyX7, tyX8, tyX9]
def kC (a : Nat) : vw_C := kcl.getD a ("", (fun _ => ("", "", "", false)), 0)
def kT (a : Nat) : Nat → FieldType := kty.getD a (fun _ => .int)
def aty (a : Nat) : FieldType := match a with | 0 => .int | 1 => .long | _ => .char
def aTy (a : Nat) : ArrayType := match a with | 0 => .int | 1 => .long | _ => .char
def exN : List String := ["java/lang/IllegalArgumentException", "java/lang/IllegalStateException", "java/lang/IndexOutOfBoundsException", "java/lang/ArithmeticException", "java/util/NoSuchElementException", "java/lang/UnsupportedOperationException"]
def exI : List Nat := [76, 87, 102, 140, 254, 227]
def stN : List (String × Nat × String) := [("Plotwise", 74, "a value is out of range"), ("Plotwise", 85, "the table is full"), ("Plotwise", 100, "no such row"), ("Plotwise", 110, "no such row or column"), ("Plotwise", 112, "the value is out of range"), ("Plotwise", 327, "no such column"), ("Plotwise", 138, "the column has no values"), ("Plotwise", 141, "there are no rows"), ("Plotwise", 146, "no kind to force"), ("Plotwise", 155, "the column is not forced"), ("Plotwise", 165, "no such mark"), ("Plotwise", 332, "no such channel"), ("Plotwise", 178, "forbidden already"), ("Plotwise", 183, "not forbidden"), ("Plotwise", 188, "no such soft rule"), ("Plotwise", 190, "the weight is out of range"), ("Plotwise", 334, "the ranking has no such rank"), ("Plotwise", 225, "too many columns to try all charts")]
def saN : List (String × String × String) := [("Plotwise", "MARKS", "[C"), ("Plotwise$Costs", "FIRST_WEIGHTS", "[I"), ("Plotwise$Costs", "CHANNEL_COSTS", "[I")]
/-- a link's word: c the class, e = (index, kind, a, b) -/
def lkw (c : Nat) (e : Nat × Nat × Nat × Nat) : Cond := match e.2.1 with
  | 0 => .fieldLink (dN c) e.1 (kC e.2.2.1).1 ((kC e.2.2.1).2.1 e.2.2.2).2.1 ((kC e.2.2.1).2.1 e.2.2.2).2.2.1
  | 1 => .fieldLink (dN c) e.1 (saN.getD e.2.2.1 ("", "", "")).1 (saN.getD e.2.2.1 ("", "", "")).2.1 (saN.getD e.2.2.1 ("", "", "")).2.2
  | 2 => .methodLink (dN c) e.1 objectInit
  | 3 => .methodLink (dN c) e.1 (match e.2.2.1 with | 0 => ⟨"[I", "clone", "()Ljava/lang/Object;"⟩ | 1 => ⟨"java/lang/Math", "max", "(II)I"⟩ | 2 => ⟨"java/lang/Math", "max", "(JJ)J"⟩ | 3 => ⟨"java/lang/Math", "min", "(II)I"⟩ | _ => ⟨"java/lang/Math", "min", "(JJ)J"⟩)
  | 4 => .methodLink (dN c) e.1 (mY e.2.2.1)
  | 5 => .classLink (dN c) e.1 (if e.2.2.1 < 100 then (kC e.2.2.1).1 else exN.getD (e.2.2.1 - 100) "")
  | 6 => (match e.2.2.2 with | 0 => .constant (dN c) e.1 (Int32.ofNat e.2.2.1) | _ => .constantFloat (dN c) e.1 (UInt32.ofNat e.2.2.1))
  | 7 => (match e.2.2.2 with | 0 => .constantLong (dN c) e.1 (Int64.ofNat e.2.2.1) | _ => .constantDouble (dN c) e.1 (UInt64.ofNat e.2.2.1))
  | 8 => .fieldLinkNest (dN c) e.1 (saN.getD e.2.2.1 ("", "", "")).1 (saN.getD e.2.2.1 ("", "", "")).2.1 (saN.getD e.2.2.1 ("", "", "")).2.2 "Plotwise"
  | 9 => .methodLinkNest (dN c) e.1 (mY e.2.2.1) "Plotwise"
  | _ => .classLink (dN c) e.1 "[I"
def lk0 : List (Nat × Nat × Nat × Nat) := [(1, 2, 0, 0), (9, 0, 0, 0), (13, 0, 0, 1), (17, 4, 2, 0), (21, 4, 3, 0), (25, 4, 36, 0), (31, 4, 6, 0)]
def lk1 : List (Nat × Nat × Nat × Nat) := [(12, 4, 13, 0), (16, 4, 11, 0)]
def lk2 : List (Nat × Nat × Nat × Nat) := [(3, 2, 0, 0), (9, 0, 1, 0), (15, 1, 1, 0), (19, 3, 0, 0), (20, 10, 0, 0), (24, 0, 1, 1), (27, 4, 17, 0), (31, 4, 11, 0), (37, 4, 47, 0), (43, 4, 22, 0), (46, 4, 52, 0), (50, 4, 107, 0), (56, 4, 20, 0), (59, 4, 9, 0), (63, 4, 10, 0), (66, 4, 13, 0), (69, 4, 106, 0), (73, 4, 21, 0), (77, 4, 44, 0), (81, 4, 50, 0), (84, 1, 2, 0)]
def lk3 : List (Nat × Nat × Nat × Nat) := [(3, 2, 0, 0), (9, 0, 2, 0), (15, 0, 2, 2), (19, 0, 2, 1), (23, 4, 106, 0), (29, 0, 2, 3), (32, 4, 29, 0), (35, 4, 9, 0), (41, 4, 10, 0), (44, 4, 11, 0), (48, 4, 47, 0), (53, 4, 30, 0), (57, 4, 31, 0), (60, 4, 32, 0), (63, 4, 53, 0), (66, 4, 26, 0), (70, 4, 13, 0)]
def lk4 : List (Nat × Nat × Nat × Nat) := [(3, 2, 0, 0), (11, 0, 3, 0), (15, 0, 3, 2)]
def lk5 : List (Nat × Nat × Nat × Nat) := [(9, 7, 16777215, 0)]
def lk6 : List (Nat × Nat × Nat × Nat) := [(3, 2, 0, 0), (9, 5, 0, 0), (11, 4, 0, 0), (12, 0, 4, 2), (18, 0, 4, 3), (22, 0, 4, 0), (26, 0, 4, 1), (30, 4, 5, 0), (33, 8, 0, 0), (37, 4, 8, 0), (43, 4, 40, 0), (47, 4, 12, 0), (51, 4, 42, 0), (55, 4, 14, 0), (59, 4, 41, 0), (62, 4, 29, 0), (68, 4, 19, 0), (73, 4, 34, 0), (79, 4, 7, 0), (83, 4, 6, 0)]
def lk7 : List (Nat × Nat × Nat × Nat) := [(3, 2, 0, 0), (9, 0, 5, 0), (15, 0, 5, 1), (18, 0, 5, 2), (21, 0, 5, 3), (24, 0, 5, 4), (27, 0, 5, 5), (31, 0, 5, 6), (34, 0, 5, 7), (38, 4, 45, 0), (42, 9, 96, 0), (45, 4, 53, 0), (48, 4, 59, 0), (52, 4, 60, 0), (55, 4, 46, 0), (59, 4, 61, 0), (63, 4, 62, 0), (67, 4, 63, 0)]
def lk8 : List (Nat × Nat × Nat × Nat) := [(3, 2, 0, 0), (9, 5, 0, 0), (11, 4, 0, 0), (12, 0, 6, 2), (18, 0, 6, 0), (22, 0, 6, 1), (26, 4, 70, 0), (30, 0, 6, 3), (34, 0, 6, 4), (38, 4, 19, 0), (44, 4, 34, 0), (50, 4, 68, 0), (54, 0, 6, 5), (57, 4, 5, 0), (60, 4, 30, 0), (66, 4, 69, 0), (70, 8, 0, 0), (74, 4, 8, 0), (80, 4, 29, 0), (83, 4, 7, 0), (86, 4, 15, 0)]
def lk9 : List (Nat × Nat × Nat × Nat) := [(1, 2, 0, 0), (7, 5, 5, 0), (9, 4, 43, 0), (10, 0, 7, 0), (16, 5, 2, 0), (18, 4, 23, 0), (21, 0, 7, 1), (25, 5, 1, 0), (27, 4, 16, 0), (28, 0, 7, 2), (32, 5, 4, 0), (34, 4, 37, 0), (37, 0, 7, 3), (41, 5, 6, 0), (43, 4, 64, 0), (44, 0, 7, 4), (48, 5, 3, 0), (50, 4, 33, 0), (51, 0, 7, 5), (55, 0, 7, 6), (59, 4, 8, 0), (65, 0, 7, 7), (68, 4, 95, 0), (72, 5, 100, 0), (79, 4, 44, 0), (83, 5, 101, 0), (88, 4, 55, 0), (92, 4, 38, 0), (95, 4, 45, 0), (98, 5, 102, 0), (103, 4, 56, 0), (107, 4, 96, 0), (114, 4, 46, 0), (118, 4, 57, 0), (122, 4, 99, 0), (125, 4, 50, 0), (129, 4, 51, 0), (133, 4, 49, 0), (136, 5, 103, 0), (143, 4, 47, 0), (148, 4, 58, 0), (152, 4, 48, 0), (157, 4, 24, 0), (161, 4, 98, 0), (167, 4, 25, 0), (171, 4, 101, 0), (174, 4, 26, 0), (180, 4, 27, 0), (185, 4, 17, 0), (192, 4, 18, 0), (195, 4, 67, 0), (198, 4, 66, 0), (201, 4, 39, 0), (205, 4, 102, 0), (209, 4, 3, 0), (214, 4, 35, 0), (220, 4, 54, 0), (223, 5, 105, 0), (228, 4, 65, 0), (229, 4, 4, 0), (232, 4, 9, 0), (236, 4, 10, 0), (239, 4, 100, 0), (242, 4, 11, 0), (247, 4, 2, 0), (250, 5, 104, 0), (311, 4, 19, 0), (316, 4, 103, 0), (320, 4, 104, 0), (323, 4, 105, 0), (329, 4, 97, 0), (338, 4, 28, 0), (343, 4, 1, 0), (346, 4, 34, 0)]
def lk10 : List (Nat × Nat × Nat × Nat) := [(265, 6, 1431655765, 0), (266, 6, 858993459, 0), (267, 6, 252645135, 0)]
def lk11 : List (Nat × Nat × Nat × Nat) := [(314, 7, 6148914691236517205, 0), (316, 7, 3689348814741910323, 0), (318, 7, 1085102592571150095, 0)]
def lk12 : List (Nat × Nat × Nat × Nat) := [(7, 6, 69069, 0), (8, 6, 1103515245, 0), (9, 4, 72, 0), (10, 5, 7, 0), (15, 5, 100, 0), (17, 6, 4294067295, 0), (18, 5, 101, 0), (20, 6, 4294067294, 0), (21, 4, 73, 0), (25, 5, 102, 0), (27, 4, 74, 0), (31, 4, 76, 0), (34, 4, 77, 0), (38, 7, 18446744073708651615, 0), (40, 4, 78, 0), (44, 7, 13919350198670196736, 1), (46, 5, 103, 0), (48, 7, 13919350207260131328, 1), (50, 4, 79, 0), (54, 6, 3378231824, 1), (55, 6, 3378231840, 1), (56, 4, 80, 0), (59, 4, 81, 0), (63, 4, 82, 0), (66, 4, 83, 0), (70, 4, 84, 0), (74, 4, 85, 0), (77, 4, 86, 0), (80, 4, 87, 0), (83, 4, 89, 0), (86, 5, 104, 0), (88, 4, 90, 0), (91, 5, 105, 0), (93, 4, 91, 0), (97, 4, 92, 0), (100, 4, 93, 0), (103, 4, 108, 0), (109, 6, 2147483647, 0), (110, 4, 129, 0), (114, 4, 132, 0), (118, 4, 109, 0), (121, 4, 131, 0), (124, 4, 134, 0), (127, 4, 135, 0), (129, 3, 1, 0), (134, 4, 136, 0), (137, 4, 138, 0), (141, 4, 139, 0), (145, 3, 3, 0), (148, 4, 141, 0), (152, 4, 137, 0), (158, 7, 9223372036854775807, 0), (160, 4, 140, 0), (163, 7, 100000, 0), (165, 4, 142, 0), (167, 4, 143, 0), (171, 3, 4, 0), (174, 3, 2, 0), (176, 4, 117, 0), (179, 4, 118, 0), (182, 4, 119, 0), (185, 4, 120, 0), (188, 4, 147, 0), (192, 4, 123, 0), (194, 4, 110, 0), (196, 4, 111, 0), (199, 4, 75, 0), (203, 4, 133, 0), (207, 4, 121, 0), (209, 4, 122, 0), (211, 4, 71, 0), (212, 4, 116, 0), (214, 4, 112, 0), (216, 4, 113, 0), (219, 4, 114, 0), (222, 4, 115, 0), (225, 4, 145, 0), (229, 4, 88, 0), (232, 4, 144, 0), (236, 4, 124, 0), (238, 4, 125, 0), (240, 4, 126, 0), (242, 4, 127, 0), (244, 4, 128, 0), (246, 4, 130, 0), (250, 4, 148, 0), (253, 4, 146, 0), (256, 4, 149, 0), (260, 4, 150, 0), (263, 4, 94, 0)]
def lkl : List (List (Nat × Nat × Nat × Nat)) := [lk0, lk1, lk2, lk3, lk4, lk5, lk6, lk7, lk8, lk9, lk10, lk11, lk12]
def lks (c : Nat) : List (Nat × Nat × Nat × Nat) := lkl.getD c []
end
section
/-! the link words and the methods' words stand in the tables -/
def XU : List Cond := lw_tbl.filter goodWord
theorem xu_t {w : Cond} (h : w ∈ tables_1) (g : goodWord w = true) : w ∈ XU := List.mem_filter.mpr ⟨List.mem_append_right _ h, g⟩
theorem tt1 {w : Cond} (h : w ∈ tables_1_1) : w ∈ tables_1 := List.mem_append_left _ h
theorem gm1 {w : Cond} (i : Nat) (h : tables_1_1[i]? = some w) (g : goodWord w = true) : w ∈ XU := xu_t (tt1 (List.mem_of_getElem? h)) g
theorem pm1 {w : Cond} (i : Nat) (h : tables_1_1[i]? = some w) : w ∈ tables_1 := tt1 (List.mem_of_getElem? h)
theorem tt2 {w : Cond} (h : w ∈ tables_1_2) : w ∈ tables_1 := List.mem_append_right _ (List.mem_append_left _ h)
theorem gm2 {w : Cond} (i : Nat) (h : tables_1_2[i]? = some w) (g : goodWord w = true) : w ∈ XU := xu_t (tt2 (List.mem_of_getElem? h)) g
theorem pm2 {w : Cond} (i : Nat) (h : tables_1_2[i]? = some w) : w ∈ tables_1 := tt2 (List.mem_of_getElem? h)
theorem tt3 {w : Cond} (h : w ∈ tables_1_3) : w ∈ tables_1 := List.mem_append_right _ (List.mem_append_right _ (List.mem_append_left _ h))
theorem gm3 {w : Cond} (i : Nat) (h : tables_1_3[i]? = some w) (g : goodWord w = true) : w ∈ XU := xu_t (tt3 (List.mem_of_getElem? h)) g
theorem pm3 {w : Cond} (i : Nat) (h : tables_1_3[i]? = some w) : w ∈ tables_1 := tt3 (List.mem_of_getElem? h)
theorem tt4 {w : Cond} (h : w ∈ tables_1_4) : w ∈ tables_1 := List.mem_append_right _ (List.mem_append_right _ (List.mem_append_right _ (List.mem_append_left _ h)))
theorem gm4 {w : Cond} (i : Nat) (h : tables_1_4[i]? = some w) (g : goodWord w = true) : w ∈ XU := xu_t (tt4 (List.mem_of_getElem? h)) g
theorem pm4 {w : Cond} (i : Nat) (h : tables_1_4[i]? = some w) : w ∈ tables_1 := tt4 (List.mem_of_getElem? h)
theorem tt5 {w : Cond} (h : w ∈ tables_1_5) : w ∈ tables_1 := List.mem_append_right _ (List.mem_append_right _ (List.mem_append_right _ (List.mem_append_right _ (h))))
theorem gm5 {w : Cond} (i : Nat) (h : tables_1_5[i]? = some w) (g : goodWord w = true) : w ∈ XU := xu_t (tt5 (List.mem_of_getElem? h)) g
theorem pm5 {w : Cond} (i : Nat) (h : tables_1_5[i]? = some w) : w ∈ tables_1 := tt5 (List.mem_of_getElem? h)
theorem xw0 : lkw 0 (1, 2, 0, 0) ∈ XU := gm1 118 (by decide +kernel) (by decide +kernel)
theorem xw1 : lkw 0 (9, 0, 0, 0) ∈ XU := gm1 119 (by decide +kernel) (by decide +kernel)
theorem xw2 : lkw 0 (13, 0, 0, 1) ∈ XU := gm1 120 (by decide +kernel) (by decide +kernel)
theorem xw3 : lkw 0 (17, 4, 2, 0) ∈ XU := gm2 109 (by decide +kernel) (by decide +kernel)
theorem xw4 : lkw 0 (21, 4, 3, 0) ∈ XU := gm2 145 (by decide +kernel) (by decide +kernel)
theorem xw5 : lkw 0 (25, 4, 36, 0) ∈ XU := gm2 149 (by decide +kernel) (by decide +kernel)
theorem xw6 : lkw 0 (31, 4, 6, 0) ∈ XU := gm2 108 (by decide +kernel) (by decide +kernel)
theorem lk_ok0 : ∀ e ∈ lk0, lkw 0 e ∈ XU ∨ (8 ≤ e.2.1 ∧ lkw 0 e ∈ tables_1) := List.forall_mem_cons.mpr ⟨Or.inl xw0, List.forall_mem_cons.mpr ⟨Or.inl xw1, List.forall_mem_cons.mpr ⟨Or.inl xw2, List.forall_mem_cons.mpr ⟨Or.inl xw3, List.forall_mem_cons.mpr ⟨Or.inl xw4, List.forall_mem_cons.mpr ⟨Or.inl xw5, List.forall_mem_cons.mpr ⟨Or.inl xw6, fun _ h => absurd h List.not_mem_nil⟩⟩⟩⟩⟩⟩⟩
theorem xw7 : lkw 1 (12, 4, 13, 0) ∈ XU := gm2 99 (by decide +kernel) (by decide +kernel)
theorem xw8 : lkw 1 (16, 4, 11, 0) ∈ XU := gm1 153 (by decide +kernel) (by decide +kernel)
theorem lk_ok1 : ∀ e ∈ lk1, lkw 1 e ∈ XU ∨ (8 ≤ e.2.1 ∧ lkw 1 e ∈ tables_1) := List.forall_mem_cons.mpr ⟨Or.inl xw7, List.forall_mem_cons.mpr ⟨Or.inl xw8, fun _ h => absurd h List.not_mem_nil⟩⟩
theorem xw9 : lkw 2 (3, 2, 0, 0) ∈ XU := gm1 90 (by decide +kernel) (by decide +kernel)
theorem xw10 : lkw 2 (9, 0, 1, 0) ∈ XU := gm1 100 (by decide +kernel) (by decide +kernel)
theorem xw11 : lkw 2 (15, 1, 1, 0) ∈ XU := gm1 91 (by decide +kernel) (by decide +kernel)
theorem xw12 : lkw 2 (19, 3, 0, 0) ∈ XU := gm1 93 (by decide +kernel) (by decide +kernel)
theorem xw13 : lkw 2 (20, 10, 0, 0) ∈ XU := gm1 99 (by decide +kernel) (by decide +kernel)
theorem xw14 : lkw 2 (24, 0, 1, 1) ∈ XU := gm1 101 (by decide +kernel) (by decide +kernel)
theorem xw15 : lkw 2 (27, 4, 17, 0) ∈ XU := gm4 70 (by decide +kernel) (by decide +kernel)
theorem xw16 : lkw 2 (31, 4, 11, 0) ∈ XU := gm2 45 (by decide +kernel) (by decide +kernel)
theorem xw17 : lkw 2 (37, 4, 47, 0) ∈ XU := gm2 46 (by decide +kernel) (by decide +kernel)
theorem xw18 : lkw 2 (43, 4, 22, 0) ∈ XU := gm2 47 (by decide +kernel) (by decide +kernel)
theorem xw19 : lkw 2 (46, 4, 52, 0) ∈ XU := gm2 52 (by decide +kernel) (by decide +kernel)
theorem xw20 : lkw 2 (50, 4, 107, 0) ∈ XU := gm2 59 (by decide +kernel) (by decide +kernel)
theorem xw21 : lkw 2 (56, 4, 20, 0) ∈ XU := gm2 65 (by decide +kernel) (by decide +kernel)
theorem xw22 : lkw 2 (59, 4, 9, 0) ∈ XU := gm2 69 (by decide +kernel) (by decide +kernel)
theorem xw23 : lkw 2 (63, 4, 10, 0) ∈ XU := gm2 70 (by decide +kernel) (by decide +kernel)
theorem xw24 : lkw 2 (66, 4, 13, 0) ∈ XU := gm2 71 (by decide +kernel) (by decide +kernel)
theorem xw25 : lkw 2 (69, 4, 106, 0) ∈ XU := gm2 72 (by decide +kernel) (by decide +kernel)
theorem xw26 : lkw 2 (73, 4, 21, 0) ∈ XU := gm2 78 (by decide +kernel) (by decide +kernel)
theorem xw27 : lkw 2 (77, 4, 44, 0) ∈ XU := gm2 81 (by decide +kernel) (by decide +kernel)
theorem xw28 : lkw 2 (81, 4, 50, 0) ∈ XU := gm2 85 (by decide +kernel) (by decide +kernel)
theorem xw29 : lkw 2 (84, 1, 2, 0) ∈ XU := gm2 50 (by decide +kernel) (by decide +kernel)
theorem lk_ok2 : ∀ e ∈ lk2, lkw 2 e ∈ XU ∨ (8 ≤ e.2.1 ∧ lkw 2 e ∈ tables_1) := List.forall_mem_cons.mpr ⟨Or.inl xw9, List.forall_mem_cons.mpr ⟨Or.inl xw10, List.forall_mem_cons.mpr ⟨Or.inl xw11, List.forall_mem_cons.mpr ⟨Or.inl xw12, List.forall_mem_cons.mpr ⟨Or.inl xw13, List.forall_mem_cons.mpr ⟨Or.inl xw14, List.forall_mem_cons.mpr ⟨Or.inl xw15, List.forall_mem_cons.mpr ⟨Or.inl xw16, List.forall_mem_cons.mpr ⟨Or.inl xw17, List.forall_mem_cons.mpr ⟨Or.inl xw18, List.forall_mem_cons.mpr ⟨Or.inl xw19, List.forall_mem_cons.mpr ⟨Or.inl xw20, List.forall_mem_cons.mpr ⟨Or.inl xw21, List.forall_mem_cons.mpr ⟨Or.inl xw22, List.forall_mem_cons.mpr ⟨Or.inl xw23, List.forall_mem_cons.mpr ⟨Or.inl xw24, List.forall_mem_cons.mpr ⟨Or.inl xw25, List.forall_mem_cons.mpr ⟨Or.inl xw26, List.forall_mem_cons.mpr ⟨Or.inl xw27, List.forall_mem_cons.mpr ⟨Or.inl xw28, List.forall_mem_cons.mpr ⟨Or.inl xw29, fun _ h => absurd h List.not_mem_nil⟩⟩⟩⟩⟩⟩⟩⟩⟩⟩⟩⟩⟩⟩⟩⟩⟩⟩⟩⟩⟩
theorem xw30 : lkw 3 (3, 2, 0, 0) ∈ XU := gm1 71 (by decide +kernel) (by decide +kernel)
theorem xw31 : lkw 3 (9, 0, 2, 0) ∈ XU := gm1 72 (by decide +kernel) (by decide +kernel)
theorem xw32 : lkw 3 (15, 0, 2, 2) ∈ XU := gm1 74 (by decide +kernel) (by decide +kernel)
theorem xw33 : lkw 3 (19, 0, 2, 1) ∈ XU := gm1 73 (by decide +kernel) (by decide +kernel)
theorem xw34 : lkw 3 (23, 4, 106, 0) ∈ XU := gm4 6 (by decide +kernel) (by decide +kernel)
theorem xw35 : lkw 3 (29, 0, 2, 3) ∈ XU := gm1 75 (by decide +kernel) (by decide +kernel)
theorem xw36 : lkw 3 (32, 4, 29, 0) ∈ XU := gm2 157 (by decide +kernel) (by decide +kernel)
theorem xw37 : lkw 3 (35, 4, 9, 0) ∈ XU := gm2 8 (by decide +kernel) (by decide +kernel)
theorem xw38 : lkw 3 (41, 4, 10, 0) ∈ XU := gm2 11 (by decide +kernel) (by decide +kernel)
theorem xw39 : lkw 3 (44, 4, 11, 0) ∈ XU := gm2 14 (by decide +kernel) (by decide +kernel)
theorem xw40 : lkw 3 (48, 4, 47, 0) ∈ XU := gm2 15 (by decide +kernel) (by decide +kernel)
theorem xw41 : lkw 3 (53, 4, 30, 0) ∈ XU := gm2 19 (by decide +kernel) (by decide +kernel)
theorem xw42 : lkw 3 (57, 4, 31, 0) ∈ XU := gm2 26 (by decide +kernel) (by decide +kernel)
theorem xw43 : lkw 3 (60, 4, 32, 0) ∈ XU := gm2 34 (by decide +kernel) (by decide +kernel)
theorem xw44 : lkw 3 (63, 4, 53, 0) ∈ XU := gm2 23 (by decide +kernel) (by decide +kernel)
theorem xw45 : lkw 3 (66, 4, 26, 0) ∈ XU := gm2 30 (by decide +kernel) (by decide +kernel)
theorem xw46 : lkw 3 (70, 4, 13, 0) ∈ XU := gm2 38 (by decide +kernel) (by decide +kernel)
theorem lk_ok3 : ∀ e ∈ lk3, lkw 3 e ∈ XU ∨ (8 ≤ e.2.1 ∧ lkw 3 e ∈ tables_1) := List.forall_mem_cons.mpr ⟨Or.inl xw30, List.forall_mem_cons.mpr ⟨Or.inl xw31, List.forall_mem_cons.mpr ⟨Or.inl xw32, List.forall_mem_cons.mpr ⟨Or.inl xw33, List.forall_mem_cons.mpr ⟨Or.inl xw34, List.forall_mem_cons.mpr ⟨Or.inl xw35, List.forall_mem_cons.mpr ⟨Or.inl xw36, List.forall_mem_cons.mpr ⟨Or.inl xw37, List.forall_mem_cons.mpr ⟨Or.inl xw38, List.forall_mem_cons.mpr ⟨Or.inl xw39, List.forall_mem_cons.mpr ⟨Or.inl xw40, List.forall_mem_cons.mpr ⟨Or.inl xw41, List.forall_mem_cons.mpr ⟨Or.inl xw42, List.forall_mem_cons.mpr ⟨Or.inl xw43, List.forall_mem_cons.mpr ⟨Or.inl xw44, List.forall_mem_cons.mpr ⟨Or.inl xw45, List.forall_mem_cons.mpr ⟨Or.inl xw46, fun _ h => absurd h List.not_mem_nil⟩⟩⟩⟩⟩⟩⟩⟩⟩⟩⟩⟩⟩⟩⟩⟩⟩
theorem xw47 : lkw 4 (3, 2, 0, 0) ∈ XU := gm1 180 (by decide +kernel) (by decide +kernel)
theorem xw48 : lkw 4 (11, 0, 3, 0) ∈ XU := gm1 181 (by decide +kernel) (by decide +kernel)
theorem xw49 : lkw 4 (15, 0, 3, 2) ∈ XU := gm1 182 (by decide +kernel) (by decide +kernel)
theorem lk_ok4 : ∀ e ∈ lk4, lkw 4 e ∈ XU ∨ (8 ≤ e.2.1 ∧ lkw 4 e ∈ tables_1) := List.forall_mem_cons.mpr ⟨Or.inl xw47, List.forall_mem_cons.mpr ⟨Or.inl xw48, List.forall_mem_cons.mpr ⟨Or.inl xw49, fun _ h => absurd h List.not_mem_nil⟩⟩⟩
theorem xw50 : lkw 5 (9, 7, 16777215, 0) ∈ XU := gm2 152 (by decide +kernel) (by decide +kernel)
theorem lk_ok5 : ∀ e ∈ lk5, lkw 5 e ∈ XU ∨ (8 ≤ e.2.1 ∧ lkw 5 e ∈ tables_1) := List.forall_mem_cons.mpr ⟨Or.inl xw50, fun _ h => absurd h List.not_mem_nil⟩
theorem xw51 : lkw 6 (3, 2, 0, 0) ∈ XU := gm1 112 (by decide +kernel) (by decide +kernel)
theorem xw52 : lkw 6 (9, 5, 0, 0) ∈ XU := gm1 113 (by decide +kernel) (by decide +kernel)
theorem xw53 : lkw 6 (11, 4, 0, 0) ∈ XU := gm1 115 (by decide +kernel) (by decide +kernel)
theorem xw54 : lkw 6 (12, 0, 4, 2) ∈ XU := gm1 128 (by decide +kernel) (by decide +kernel)
theorem xw55 : lkw 6 (18, 0, 4, 3) ∈ XU := gm1 129 (by decide +kernel) (by decide +kernel)
theorem xw56 : lkw 6 (22, 0, 4, 0) ∈ XU := gm1 126 (by decide +kernel) (by decide +kernel)
theorem xw57 : lkw 6 (26, 0, 4, 1) ∈ XU := gm1 127 (by decide +kernel) (by decide +kernel)
theorem xw58 : lkw 6 (30, 4, 5, 0) ∈ XU := gm1 226 (by decide +kernel) (by decide +kernel)
theorem xn59 : lkw 6 (33, 8, 0, 0) ∈ tables_1 := pm1 230 (by decide +kernel)
theorem xw60 : lkw 6 (37, 4, 8, 0) ∈ XU := gm1 232 (by decide +kernel) (by decide +kernel)
theorem xw61 : lkw 6 (43, 4, 40, 0) ∈ XU := gm1 233 (by decide +kernel) (by decide +kernel)
theorem xw62 : lkw 6 (47, 4, 12, 0) ∈ XU := gm1 237 (by decide +kernel) (by decide +kernel)
theorem xw63 : lkw 6 (51, 4, 42, 0) ∈ XU := gm2 0 (by decide +kernel) (by decide +kernel)
theorem xw64 : lkw 6 (55, 4, 14, 0) ∈ XU := gm2 96 (by decide +kernel) (by decide +kernel)
theorem xw65 : lkw 6 (59, 4, 41, 0) ∈ XU := gm2 100 (by decide +kernel) (by decide +kernel)
theorem xw66 : lkw 6 (62, 4, 29, 0) ∈ XU := gm2 4 (by decide +kernel) (by decide +kernel)
theorem xw67 : lkw 6 (68, 4, 19, 0) ∈ XU := gm2 41 (by decide +kernel) (by decide +kernel)
theorem xw68 : lkw 6 (73, 4, 34, 0) ∈ XU := gm2 89 (by decide +kernel) (by decide +kernel)
theorem xw69 : lkw 6 (79, 4, 7, 0) ∈ XU := gm2 104 (by decide +kernel) (by decide +kernel)
theorem xw70 : lkw 6 (83, 4, 6, 0) ∈ XU := gm2 92 (by decide +kernel) (by decide +kernel)
theorem lk_ok6 : ∀ e ∈ lk6, lkw 6 e ∈ XU ∨ (8 ≤ e.2.1 ∧ lkw 6 e ∈ tables_1) := List.forall_mem_cons.mpr ⟨Or.inl xw51, List.forall_mem_cons.mpr ⟨Or.inl xw52, List.forall_mem_cons.mpr ⟨Or.inl xw53, List.forall_mem_cons.mpr ⟨Or.inl xw54, List.forall_mem_cons.mpr ⟨Or.inl xw55, List.forall_mem_cons.mpr ⟨Or.inl xw56, List.forall_mem_cons.mpr ⟨Or.inl xw57, List.forall_mem_cons.mpr ⟨Or.inl xw58, List.forall_mem_cons.mpr ⟨Or.inr ⟨by decide, xn59⟩, List.forall_mem_cons.mpr ⟨Or.inl xw60, List.forall_mem_cons.mpr ⟨Or.inl xw61, List.forall_mem_cons.mpr ⟨Or.inl xw62, List.forall_mem_cons.mpr ⟨Or.inl xw63, List.forall_mem_cons.mpr ⟨Or.inl xw64, List.forall_mem_cons.mpr ⟨Or.inl xw65, List.forall_mem_cons.mpr ⟨Or.inl xw66, List.forall_mem_cons.mpr ⟨Or.inl xw67, List.forall_mem_cons.mpr ⟨Or.inl xw68, List.forall_mem_cons.mpr ⟨Or.inl xw69, List.forall_mem_cons.mpr ⟨Or.inl xw70, fun _ h => absurd h List.not_mem_nil⟩⟩⟩⟩⟩⟩⟩⟩⟩⟩⟩⟩⟩⟩⟩⟩⟩⟩⟩⟩
theorem xw71 : lkw 7 (3, 2, 0, 0) ∈ XU := gm1 38 (by decide +kernel) (by decide +kernel)
theorem xw72 : lkw 7 (9, 0, 5, 0) ∈ XU := gm1 39 (by decide +kernel) (by decide +kernel)
theorem xw73 : lkw 7 (15, 0, 5, 1) ∈ XU := gm1 40 (by decide +kernel) (by decide +kernel)
theorem xw74 : lkw 7 (18, 0, 5, 2) ∈ XU := gm1 41 (by decide +kernel) (by decide +kernel)
theorem xw75 : lkw 7 (21, 0, 5, 3) ∈ XU := gm1 42 (by decide +kernel) (by decide +kernel)
theorem xw76 : lkw 7 (24, 0, 5, 4) ∈ XU := gm1 43 (by decide +kernel) (by decide +kernel)
theorem xw77 : lkw 7 (27, 0, 5, 5) ∈ XU := gm1 44 (by decide +kernel) (by decide +kernel)
theorem xw78 : lkw 7 (31, 0, 5, 6) ∈ XU := gm1 45 (by decide +kernel) (by decide +kernel)
theorem xw79 : lkw 7 (34, 0, 5, 7) ∈ XU := gm1 46 (by decide +kernel) (by decide +kernel)
theorem xw80 : lkw 7 (38, 4, 45, 0) ∈ XU := gm3 46 (by decide +kernel) (by decide +kernel)
theorem xn81 : lkw 7 (42, 9, 96, 0) ∈ tables_1 := pm2 56 (by decide +kernel)
theorem xw82 : lkw 7 (45, 4, 53, 0) ∈ XU := gm4 216 (by decide +kernel) (by decide +kernel)
theorem xw83 : lkw 7 (48, 4, 59, 0) ∈ XU := gm3 42 (by decide +kernel) (by decide +kernel)
theorem xw84 : lkw 7 (52, 4, 60, 0) ∈ XU := gm3 50 (by decide +kernel) (by decide +kernel)
theorem xw85 : lkw 7 (55, 4, 46, 0) ∈ XU := gm3 58 (by decide +kernel) (by decide +kernel)
theorem xw86 : lkw 7 (59, 4, 61, 0) ∈ XU := gm3 54 (by decide +kernel) (by decide +kernel)
theorem xw87 : lkw 7 (63, 4, 62, 0) ∈ XU := gm3 62 (by decide +kernel) (by decide +kernel)
theorem xw88 : lkw 7 (67, 4, 63, 0) ∈ XU := gm3 66 (by decide +kernel) (by decide +kernel)
theorem lk_ok7 : ∀ e ∈ lk7, lkw 7 e ∈ XU ∨ (8 ≤ e.2.1 ∧ lkw 7 e ∈ tables_1) := List.forall_mem_cons.mpr ⟨Or.inl xw71, List.forall_mem_cons.mpr ⟨Or.inl xw72, List.forall_mem_cons.mpr ⟨Or.inl xw73, List.forall_mem_cons.mpr ⟨Or.inl xw74, List.forall_mem_cons.mpr ⟨Or.inl xw75, List.forall_mem_cons.mpr ⟨Or.inl xw76, List.forall_mem_cons.mpr ⟨Or.inl xw77, List.forall_mem_cons.mpr ⟨Or.inl xw78, List.forall_mem_cons.mpr ⟨Or.inl xw79, List.forall_mem_cons.mpr ⟨Or.inl xw80, List.forall_mem_cons.mpr ⟨Or.inr ⟨by decide, xn81⟩, List.forall_mem_cons.mpr ⟨Or.inl xw82, List.forall_mem_cons.mpr ⟨Or.inl xw83, List.forall_mem_cons.mpr ⟨Or.inl xw84, List.forall_mem_cons.mpr ⟨Or.inl xw85, List.forall_mem_cons.mpr ⟨Or.inl xw86, List.forall_mem_cons.mpr ⟨Or.inl xw87, List.forall_mem_cons.mpr ⟨Or.inl xw88, fun _ h => absurd h List.not_mem_nil⟩⟩⟩⟩⟩⟩⟩⟩⟩⟩⟩⟩⟩⟩⟩⟩⟩⟩
theorem xw89 : lkw 8 (3, 2, 0, 0) ∈ XU := gm1 144 (by decide +kernel) (by decide +kernel)
theorem xw90 : lkw 8 (9, 5, 0, 0) ∈ XU := gm1 145 (by decide +kernel) (by decide +kernel)
theorem xw91 : lkw 8 (11, 4, 0, 0) ∈ XU := gm1 146 (by decide +kernel) (by decide +kernel)
theorem xw92 : lkw 8 (12, 0, 6, 2) ∈ XU := gm1 158 (by decide +kernel) (by decide +kernel)
theorem xw93 : lkw 8 (18, 0, 6, 0) ∈ XU := gm1 156 (by decide +kernel) (by decide +kernel)
theorem xw94 : lkw 8 (22, 0, 6, 1) ∈ XU := gm1 157 (by decide +kernel) (by decide +kernel)
theorem xw95 : lkw 8 (26, 4, 70, 0) ∈ XU := gm1 147 (by decide +kernel) (by decide +kernel)
theorem xw96 : lkw 8 (30, 0, 6, 3) ∈ XU := gm1 159 (by decide +kernel) (by decide +kernel)
theorem xw97 : lkw 8 (34, 0, 6, 4) ∈ XU := gm1 160 (by decide +kernel) (by decide +kernel)
theorem xw98 : lkw 8 (38, 4, 19, 0) ∈ XU := gm2 130 (by decide +kernel) (by decide +kernel)
theorem xw99 : lkw 8 (44, 4, 34, 0) ∈ XU := gm2 131 (by decide +kernel) (by decide +kernel)
theorem xw100 : lkw 8 (50, 4, 68, 0) ∈ XU := gm2 117 (by decide +kernel) (by decide +kernel)
theorem xw101 : lkw 8 (54, 0, 6, 5) ∈ XU := gm1 161 (by decide +kernel) (by decide +kernel)
theorem xw102 : lkw 8 (57, 4, 5, 0) ∈ XU := gm2 121 (by decide +kernel) (by decide +kernel)
theorem xw103 : lkw 8 (60, 4, 30, 0) ∈ XU := gm2 122 (by decide +kernel) (by decide +kernel)
theorem xw104 : lkw 8 (66, 4, 69, 0) ∈ XU := gm2 123 (by decide +kernel) (by decide +kernel)
theorem xn105 : lkw 8 (70, 8, 0, 0) ∈ tables_1 := pm2 127 (by decide +kernel)
theorem xw106 : lkw 8 (74, 4, 8, 0) ∈ XU := gm2 128 (by decide +kernel) (by decide +kernel)
theorem xw107 : lkw 8 (80, 4, 29, 0) ∈ XU := gm2 129 (by decide +kernel) (by decide +kernel)
theorem xw108 : lkw 8 (83, 4, 7, 0) ∈ XU := gm2 132 (by decide +kernel) (by decide +kernel)
theorem xw109 : lkw 8 (86, 4, 15, 0) ∈ XU := gm1 150 (by decide +kernel) (by decide +kernel)
theorem lk_ok8 : ∀ e ∈ lk8, lkw 8 e ∈ XU ∨ (8 ≤ e.2.1 ∧ lkw 8 e ∈ tables_1) := List.forall_mem_cons.mpr ⟨Or.inl xw89, List.forall_mem_cons.mpr ⟨Or.inl xw90, List.forall_mem_cons.mpr ⟨Or.inl xw91, List.forall_mem_cons.mpr ⟨Or.inl xw92, List.forall_mem_cons.mpr ⟨Or.inl xw93, List.forall_mem_cons.mpr ⟨Or.inl xw94, List.forall_mem_cons.mpr ⟨Or.inl xw95, List.forall_mem_cons.mpr ⟨Or.inl xw96, List.forall_mem_cons.mpr ⟨Or.inl xw97, List.forall_mem_cons.mpr ⟨Or.inl xw98, List.forall_mem_cons.mpr ⟨Or.inl xw99, List.forall_mem_cons.mpr ⟨Or.inl xw100, List.forall_mem_cons.mpr ⟨Or.inl xw101, List.forall_mem_cons.mpr ⟨Or.inl xw102, List.forall_mem_cons.mpr ⟨Or.inl xw103, List.forall_mem_cons.mpr ⟨Or.inl xw104, List.forall_mem_cons.mpr ⟨Or.inr ⟨by decide, xn105⟩, List.forall_mem_cons.mpr ⟨Or.inl xw106, List.forall_mem_cons.mpr ⟨Or.inl xw107, List.forall_mem_cons.mpr ⟨Or.inl xw108, List.forall_mem_cons.mpr ⟨Or.inl xw109, fun _ h => absurd h List.not_mem_nil⟩⟩⟩⟩⟩⟩⟩⟩⟩⟩⟩⟩⟩⟩⟩⟩⟩⟩⟩⟩⟩
theorem xw110 : lkw 9 (1, 2, 0, 0) ∈ XU := gm1 30 (by decide +kernel) (by decide +kernel)
theorem xw111 : lkw 9 (7, 5, 5, 0) ∈ XU := gm1 33 (by decide +kernel) (by decide +kernel)
theorem xw112 : lkw 9 (9, 4, 43, 0) ∈ XU := gm1 35 (by decide +kernel) (by decide +kernel)
theorem xw113 : lkw 9 (10, 0, 7, 0) ∈ XU := gm1 193 (by decide +kernel) (by decide +kernel)
theorem xw114 : lkw 9 (16, 5, 2, 0) ∈ XU := gm1 66 (by decide +kernel) (by decide +kernel)
theorem xw115 : lkw 9 (18, 4, 23, 0) ∈ XU := gm1 68 (by decide +kernel) (by decide +kernel)
theorem xw116 : lkw 9 (21, 0, 7, 1) ∈ XU := gm1 194 (by decide +kernel) (by decide +kernel)
theorem xw117 : lkw 9 (25, 5, 1, 0) ∈ XU := gm1 85 (by decide +kernel) (by decide +kernel)
theorem xw118 : lkw 9 (27, 4, 16, 0) ∈ XU := gm1 87 (by decide +kernel) (by decide +kernel)
theorem xw119 : lkw 9 (28, 0, 7, 2) ∈ XU := gm1 195 (by decide +kernel) (by decide +kernel)
theorem xw120 : lkw 9 (32, 5, 4, 0) ∈ XU := gm1 107 (by decide +kernel) (by decide +kernel)
theorem xw121 : lkw 9 (34, 4, 37, 0) ∈ XU := gm1 109 (by decide +kernel) (by decide +kernel)
theorem xw122 : lkw 9 (37, 0, 7, 3) ∈ XU := gm1 196 (by decide +kernel) (by decide +kernel)
theorem xw123 : lkw 9 (41, 5, 6, 0) ∈ XU := gm1 139 (by decide +kernel) (by decide +kernel)
theorem xw124 : lkw 9 (43, 4, 64, 0) ∈ XU := gm1 141 (by decide +kernel) (by decide +kernel)
theorem xw125 : lkw 9 (44, 0, 7, 4) ∈ XU := gm1 197 (by decide +kernel) (by decide +kernel)
theorem xw126 : lkw 9 (48, 5, 3, 0) ∈ XU := gm1 175 (by decide +kernel) (by decide +kernel)
theorem xw127 : lkw 9 (50, 4, 33, 0) ∈ XU := gm1 177 (by decide +kernel) (by decide +kernel)
theorem xw128 : lkw 9 (51, 0, 7, 5) ∈ XU := gm1 198 (by decide +kernel) (by decide +kernel)
theorem xw129 : lkw 9 (55, 0, 7, 6) ∈ XU := gm1 199 (by decide +kernel) (by decide +kernel)
theorem xw130 : lkw 9 (59, 4, 8, 0) ∈ XU := gm1 190 (by decide +kernel) (by decide +kernel)
theorem xw131 : lkw 9 (65, 0, 7, 7) ∈ XU := gm1 200 (by decide +kernel) (by decide +kernel)
theorem xw132 : lkw 9 (68, 4, 95, 0) ∈ XU := gm2 186 (by decide +kernel) (by decide +kernel)
theorem xw133 : lkw 9 (72, 5, 100, 0) ∈ XU := gm2 189 (by decide +kernel) (by decide +kernel)
theorem xw134 : lkw 9 (79, 4, 44, 0) ∈ XU := gm3 21 (by decide +kernel) (by decide +kernel)
theorem xw135 : lkw 9 (83, 5, 101, 0) ∈ XU := gm3 22 (by decide +kernel) (by decide +kernel)
theorem xw136 : lkw 9 (88, 4, 55, 0) ∈ XU := gm3 38 (by decide +kernel) (by decide +kernel)
theorem xw137 : lkw 9 (92, 4, 38, 0) ∈ XU := gm3 69 (by decide +kernel) (by decide +kernel)
theorem xw138 : lkw 9 (95, 4, 45, 0) ∈ XU := gm3 106 (by decide +kernel) (by decide +kernel)
theorem xw139 : lkw 9 (98, 5, 102, 0) ∈ XU := gm3 107 (by decide +kernel) (by decide +kernel)
theorem xw140 : lkw 9 (103, 4, 56, 0) ∈ XU := gm3 120 (by decide +kernel) (by decide +kernel)
theorem xw141 : lkw 9 (107, 4, 96, 0) ∈ XU := gm3 131 (by decide +kernel) (by decide +kernel)
theorem xw142 : lkw 9 (114, 4, 46, 0) ∈ XU := gm3 134 (by decide +kernel) (by decide +kernel)
theorem xw143 : lkw 9 (118, 4, 57, 0) ∈ XU := gm3 135 (by decide +kernel) (by decide +kernel)
theorem xw144 : lkw 9 (122, 4, 99, 0) ∈ XU := gm3 146 (by decide +kernel) (by decide +kernel)
theorem xw145 : lkw 9 (125, 4, 50, 0) ∈ XU := gm3 150 (by decide +kernel) (by decide +kernel)
theorem xw146 : lkw 9 (129, 4, 51, 0) ∈ XU := gm3 158 (by decide +kernel) (by decide +kernel)
theorem xw147 : lkw 9 (133, 4, 49, 0) ∈ XU := gm3 184 (by decide +kernel) (by decide +kernel)
theorem xw148 : lkw 9 (136, 5, 103, 0) ∈ XU := gm3 188 (by decide +kernel) (by decide +kernel)
theorem xw149 : lkw 9 (143, 4, 47, 0) ∈ XU := gm3 210 (by decide +kernel) (by decide +kernel)
theorem xw150 : lkw 9 (148, 4, 58, 0) ∈ XU := gm3 219 (by decide +kernel) (by decide +kernel)
theorem xw151 : lkw 9 (152, 4, 48, 0) ∈ XU := gm3 230 (by decide +kernel) (by decide +kernel)
theorem xw152 : lkw 9 (157, 4, 24, 0) ∈ XU := gm4 2 (by decide +kernel) (by decide +kernel)
theorem xw153 : lkw 9 (161, 4, 98, 0) ∈ XU := gm4 14 (by decide +kernel) (by decide +kernel)
theorem xw154 : lkw 9 (167, 4, 25, 0) ∈ XU := gm4 18 (by decide +kernel) (by decide +kernel)
theorem xw155 : lkw 9 (171, 4, 101, 0) ∈ XU := gm4 29 (by decide +kernel) (by decide +kernel)
theorem xw156 : lkw 9 (174, 4, 26, 0) ∈ XU := gm4 39 (by decide +kernel) (by decide +kernel)
theorem xw157 : lkw 9 (180, 4, 27, 0) ∈ XU := gm4 41 (by decide +kernel) (by decide +kernel)
theorem xw158 : lkw 9 (185, 4, 17, 0) ∈ XU := gm4 60 (by decide +kernel) (by decide +kernel)
theorem xw159 : lkw 9 (192, 4, 18, 0) ∈ XU := gm4 66 (by decide +kernel) (by decide +kernel)
theorem xw160 : lkw 9 (195, 4, 67, 0) ∈ XU := gm2 113 (by decide +kernel) (by decide +kernel)
theorem xw161 : lkw 9 (198, 4, 66, 0) ∈ XU := gm4 197 (by decide +kernel) (by decide +kernel)
theorem xw162 : lkw 9 (201, 4, 39, 0) ∈ XU := gm1 222 (by decide +kernel) (by decide +kernel)
theorem xw163 : lkw 9 (205, 4, 102, 0) ∈ XU := gm4 79 (by decide +kernel) (by decide +kernel)
theorem xw164 : lkw 9 (209, 4, 3, 0) ∈ XU := gm2 173 (by decide +kernel) (by decide +kernel)
theorem xw165 : lkw 9 (214, 4, 35, 0) ∈ XU := gm2 174 (by decide +kernel) (by decide +kernel)
theorem xw166 : lkw 9 (220, 4, 54, 0) ∈ XU := gm4 212 (by decide +kernel) (by decide +kernel)
theorem xw167 : lkw 9 (223, 5, 105, 0) ∈ XU := gm4 217 (by decide +kernel) (by decide +kernel)
theorem xw168 : lkw 9 (228, 4, 65, 0) ∈ XU := gm2 164 (by decide +kernel) (by decide +kernel)
theorem xw169 : lkw 9 (229, 4, 4, 0) ∈ XU := gm2 141 (by decide +kernel) (by decide +kernel)
theorem xw170 : lkw 9 (232, 4, 9, 0) ∈ XU := gm5 0 (by decide +kernel) (by decide +kernel)
theorem xw171 : lkw 9 (236, 4, 10, 0) ∈ XU := gm5 8 (by decide +kernel) (by decide +kernel)
theorem xw172 : lkw 9 (239, 4, 100, 0) ∈ XU := gm4 32 (by decide +kernel) (by decide +kernel)
theorem xw173 : lkw 9 (242, 4, 11, 0) ∈ XU := gm4 105 (by decide +kernel) (by decide +kernel)
theorem xw174 : lkw 9 (247, 4, 2, 0) ∈ XU := gm2 172 (by decide +kernel) (by decide +kernel)
theorem xw175 : lkw 9 (250, 5, 104, 0) ∈ XU := gm4 82 (by decide +kernel) (by decide +kernel)
theorem xw176 : lkw 9 (311, 4, 19, 0) ∈ XU := gm2 162 (by decide +kernel) (by decide +kernel)
theorem xw177 : lkw 9 (316, 4, 103, 0) ∈ XU := gm2 133 (by decide +kernel) (by decide +kernel)
theorem xw178 : lkw 9 (320, 4, 104, 0) ∈ XU := gm2 158 (by decide +kernel) (by decide +kernel)
theorem xw179 : lkw 9 (323, 4, 105, 0) ∈ XU := gm2 168 (by decide +kernel) (by decide +kernel)
theorem xw180 : lkw 9 (329, 4, 97, 0) ∈ XU := gm4 35 (by decide +kernel) (by decide +kernel)
theorem xw181 : lkw 9 (338, 4, 28, 0) ∈ XU := gm2 153 (by decide +kernel) (by decide +kernel)
theorem xw182 : lkw 9 (343, 4, 1, 0) ∈ XU := gm2 137 (by decide +kernel) (by decide +kernel)
theorem xw183 : lkw 9 (346, 4, 34, 0) ∈ XU := gm2 163 (by decide +kernel) (by decide +kernel)
theorem lk_ok9 : ∀ e ∈ lk9, lkw 9 e ∈ XU ∨ (8 ≤ e.2.1 ∧ lkw 9 e ∈ tables_1) := List.forall_mem_cons.mpr ⟨Or.inl xw110, List.forall_mem_cons.mpr ⟨Or.inl xw111, List.forall_mem_cons.mpr ⟨Or.inl xw112, List.forall_mem_cons.mpr ⟨Or.inl xw113, List.forall_mem_cons.mpr ⟨Or.inl xw114, List.forall_mem_cons.mpr ⟨Or.inl xw115, List.forall_mem_cons.mpr ⟨Or.inl xw116, List.forall_mem_cons.mpr ⟨Or.inl xw117, List.forall_mem_cons.mpr ⟨Or.inl xw118, List.forall_mem_cons.mpr ⟨Or.inl xw119, List.forall_mem_cons.mpr ⟨Or.inl xw120, List.forall_mem_cons.mpr ⟨Or.inl xw121, List.forall_mem_cons.mpr ⟨Or.inl xw122, List.forall_mem_cons.mpr ⟨Or.inl xw123, List.forall_mem_cons.mpr ⟨Or.inl xw124, List.forall_mem_cons.mpr ⟨Or.inl xw125, List.forall_mem_cons.mpr ⟨Or.inl xw126, List.forall_mem_cons.mpr ⟨Or.inl xw127, List.forall_mem_cons.mpr ⟨Or.inl xw128, List.forall_mem_cons.mpr ⟨Or.inl xw129, List.forall_mem_cons.mpr ⟨Or.inl xw130, List.forall_mem_cons.mpr ⟨Or.inl xw131, List.forall_mem_cons.mpr ⟨Or.inl xw132, List.forall_mem_cons.mpr ⟨Or.inl xw133, List.forall_mem_cons.mpr ⟨Or.inl xw134, List.forall_mem_cons.mpr ⟨Or.inl xw135, List.forall_mem_cons.mpr ⟨Or.inl xw136, List.forall_mem_cons.mpr ⟨Or.inl xw137, List.forall_mem_cons.mpr ⟨Or.inl xw138, List.forall_mem_cons.mpr ⟨Or.inl xw139, List.forall_mem_cons.mpr ⟨Or.inl xw140, List.forall_mem_cons.mpr ⟨Or.inl xw141, List.forall_mem_cons.mpr ⟨Or.inl xw142, List.forall_mem_cons.mpr ⟨Or.inl xw143, List.forall_mem_cons.mpr ⟨Or.inl xw144, List.forall_mem_cons.mpr ⟨Or.inl xw145, List.forall_mem_cons.mpr ⟨Or.inl xw146, List.forall_mem_cons.mpr ⟨Or.inl xw147, List.forall_mem_cons.mpr ⟨Or.inl xw148, List.forall_mem_cons.mpr ⟨Or.inl xw149, List.forall_mem_cons.mpr ⟨Or.inl xw150, List.forall_mem_cons.mpr ⟨Or.inl xw151, List.forall_mem_cons.mpr ⟨Or.inl xw152, List.forall_mem_cons.mpr ⟨Or.inl xw153, List.forall_mem_cons.mpr ⟨Or.inl xw154, List.forall_mem_cons.mpr ⟨Or.inl xw155, List.forall_mem_cons.mpr ⟨Or.inl xw156, List.forall_mem_cons.mpr ⟨Or.inl xw157, List.forall_mem_cons.mpr ⟨Or.inl xw158, List.forall_mem_cons.mpr ⟨Or.inl xw159, List.forall_mem_cons.mpr ⟨Or.inl xw160, List.forall_mem_cons.mpr ⟨Or.inl xw161, List.forall_mem_cons.mpr ⟨Or.inl xw162, List.forall_mem_cons.mpr ⟨Or.inl xw163, List.forall_mem_cons.mpr ⟨Or.inl xw164, List.forall_mem_cons.mpr ⟨Or.inl xw165, List.forall_mem_cons.mpr ⟨Or.inl xw166, List.forall_mem_cons.mpr ⟨Or.inl xw167, List.forall_mem_cons.mpr ⟨Or.inl xw168, List.forall_mem_cons.mpr ⟨Or.inl xw169, List.forall_mem_cons.mpr ⟨Or.inl xw170, List.forall_mem_cons.mpr ⟨Or.inl xw171, List.forall_mem_cons.mpr ⟨Or.inl xw172, List.forall_mem_cons.mpr ⟨Or.inl xw173, List.forall_mem_cons.mpr ⟨Or.inl xw174, List.forall_mem_cons.mpr ⟨Or.inl xw175, List.forall_mem_cons.mpr ⟨Or.inl xw176, List.forall_mem_cons.mpr ⟨Or.inl xw177, List.forall_mem_cons.mpr ⟨Or.inl xw178, List.forall_mem_cons.mpr ⟨Or.inl xw179, List.forall_mem_cons.mpr ⟨Or.inl xw180, List.forall_mem_cons.mpr ⟨Or.inl xw181, List.forall_mem_cons.mpr ⟨Or.inl xw182, List.forall_mem_cons.mpr ⟨Or.inl xw183, fun _ h => absurd h List.not_mem_nil⟩⟩⟩⟩⟩⟩⟩⟩⟩⟩⟩⟩⟩⟩⟩⟩⟩⟩⟩⟩⟩⟩⟩⟩⟩⟩⟩⟩⟩⟩⟩⟩⟩⟩⟩⟩⟩⟩⟩⟩⟩⟩⟩⟩⟩⟩⟩⟩⟩⟩⟩⟩⟩⟩⟩⟩⟩⟩⟩⟩⟩⟩⟩⟩⟩⟩⟩⟩⟩⟩⟩⟩⟩⟩
theorem xw184 : lkw 10 (265, 6, 1431655765, 0) ∈ XU := gm2 75 (by decide +kernel) (by decide +kernel)
theorem xw185 : lkw 10 (266, 6, 858993459, 0) ∈ XU := gm2 76 (by decide +kernel) (by decide +kernel)
theorem xw186 : lkw 10 (267, 6, 252645135, 0) ∈ XU := gm2 77 (by decide +kernel) (by decide +kernel)
theorem lk_ok10 : ∀ e ∈ lk10, lkw 10 e ∈ XU ∨ (8 ≤ e.2.1 ∧ lkw 10 e ∈ tables_1) := List.forall_mem_cons.mpr ⟨Or.inl xw184, List.forall_mem_cons.mpr ⟨Or.inl xw185, List.forall_mem_cons.mpr ⟨Or.inl xw186, fun _ h => absurd h List.not_mem_nil⟩⟩⟩
theorem xw187 : lkw 11 (314, 7, 6148914691236517205, 0) ∈ XU := gm2 62 (by decide +kernel) (by decide +kernel)
theorem xw188 : lkw 11 (316, 7, 3689348814741910323, 0) ∈ XU := gm2 63 (by decide +kernel) (by decide +kernel)
theorem xw189 : lkw 11 (318, 7, 1085102592571150095, 0) ∈ XU := gm2 64 (by decide +kernel) (by decide +kernel)
theorem lk_ok11 : ∀ e ∈ lk11, lkw 11 e ∈ XU ∨ (8 ≤ e.2.1 ∧ lkw 11 e ∈ tables_1) := List.forall_mem_cons.mpr ⟨Or.inl xw187, List.forall_mem_cons.mpr ⟨Or.inl xw188, List.forall_mem_cons.mpr ⟨Or.inl xw189, fun _ h => absurd h List.not_mem_nil⟩⟩⟩
theorem xw190 : lkw 12 (7, 6, 69069, 0) ∈ XU := gm4 118 (by decide +kernel) (by decide +kernel)
theorem xw191 : lkw 12 (8, 6, 1103515245, 0) ∈ XU := gm4 119 (by decide +kernel) (by decide +kernel)
theorem xw192 : lkw 12 (9, 4, 72, 0) ∈ XU := gm2 182 (by decide +kernel) (by decide +kernel)
theorem xw193 : lkw 12 (10, 5, 7, 0) ∈ XU := gm1 25 (by decide +kernel) (by decide +kernel)
theorem xw194 : lkw 12 (15, 5, 100, 0) ∈ XU := gm2 180 (by decide +kernel) (by decide +kernel)
theorem xw195 : lkw 12 (17, 6, 4294067295, 0) ∈ XU := gm3 73 (by decide +kernel) (by decide +kernel)
theorem xw196 : lkw 12 (18, 5, 101, 0) ∈ XU := gm2 181 (by decide +kernel) (by decide +kernel)
theorem xw197 : lkw 12 (20, 6, 4294067294, 0) ∈ XU := gm3 74 (by decide +kernel) (by decide +kernel)
theorem xw198 : lkw 12 (21, 4, 73, 0) ∈ XU := gm3 102 (by decide +kernel) (by decide +kernel)
theorem xw199 : lkw 12 (25, 5, 102, 0) ∈ XU := gm3 78 (by decide +kernel) (by decide +kernel)
theorem xw200 : lkw 12 (27, 4, 74, 0) ∈ XU := gm3 127 (by decide +kernel) (by decide +kernel)
theorem xw201 : lkw 12 (31, 4, 76, 0) ∈ XU := gm3 142 (by decide +kernel) (by decide +kernel)
theorem xw202 : lkw 12 (34, 4, 77, 0) ∈ XU := gm3 154 (by decide +kernel) (by decide +kernel)
theorem xw203 : lkw 12 (38, 7, 18446744073708651615, 0) ∈ XU := gm3 162 (by decide +kernel) (by decide +kernel)
theorem xw204 : lkw 12 (40, 4, 78, 0) ∈ XU := gm3 180 (by decide +kernel) (by decide +kernel)
theorem xw205 : lkw 12 (44, 7, 13919350198670196736, 1) ∈ XU := gm3 191 (by decide +kernel) (by decide +kernel)
theorem xw206 : lkw 12 (46, 5, 103, 0) ∈ XU := gm3 166 (by decide +kernel) (by decide +kernel)
theorem xw207 : lkw 12 (48, 7, 13919350207260131328, 1) ∈ XU := gm3 192 (by decide +kernel) (by decide +kernel)
theorem xw208 : lkw 12 (50, 4, 79, 0) ∈ XU := gm3 196 (by decide +kernel) (by decide +kernel)
theorem xw209 : lkw 12 (54, 6, 3378231824, 1) ∈ XU := gm3 201 (by decide +kernel) (by decide +kernel)
theorem xw210 : lkw 12 (55, 6, 3378231840, 1) ∈ XU := gm3 202 (by decide +kernel) (by decide +kernel)
theorem xw211 : lkw 12 (56, 4, 80, 0) ∈ XU := gm3 206 (by decide +kernel) (by decide +kernel)
theorem xw212 : lkw 12 (59, 4, 81, 0) ∈ XU := gm3 214 (by decide +kernel) (by decide +kernel)
theorem xw213 : lkw 12 (63, 4, 82, 0) ∈ XU := gm3 226 (by decide +kernel) (by decide +kernel)
theorem xw214 : lkw 12 (66, 4, 83, 0) ∈ XU := gm3 238 (by decide +kernel) (by decide +kernel)
theorem xw215 : lkw 12 (70, 4, 84, 0) ∈ XU := gm4 10 (by decide +kernel) (by decide +kernel)
theorem xw216 : lkw 12 (74, 4, 85, 0) ∈ XU := gm4 25 (by decide +kernel) (by decide +kernel)
theorem xw217 : lkw 12 (77, 4, 86, 0) ∈ XU := gm4 48 (by decide +kernel) (by decide +kernel)
theorem xw218 : lkw 12 (80, 4, 87, 0) ∈ XU := gm4 56 (by decide +kernel) (by decide +kernel)
theorem xw219 : lkw 12 (83, 4, 89, 0) ∈ XU := gm4 75 (by decide +kernel) (by decide +kernel)
theorem xw220 : lkw 12 (86, 5, 104, 0) ∈ XU := gm4 74 (by decide +kernel) (by decide +kernel)
theorem xw221 : lkw 12 (88, 4, 90, 0) ∈ XU := gm4 208 (by decide +kernel) (by decide +kernel)
theorem xw222 : lkw 12 (91, 5, 105, 0) ∈ XU := gm4 207 (by decide +kernel) (by decide +kernel)
theorem xw223 : lkw 12 (93, 4, 91, 0) ∈ XU := gm4 236 (by decide +kernel) (by decide +kernel)
theorem xw224 : lkw 12 (97, 4, 92, 0) ∈ XU := gm5 4 (by decide +kernel) (by decide +kernel)
theorem xw225 : lkw 12 (100, 4, 93, 0) ∈ XU := gm4 101 (by decide +kernel) (by decide +kernel)
theorem xw226 : lkw 12 (103, 4, 108, 0) ∈ XU := gm4 115 (by decide +kernel) (by decide +kernel)
theorem xw227 : lkw 12 (109, 6, 2147483647, 0) ∈ XU := gm4 120 (by decide +kernel) (by decide +kernel)
theorem xw228 : lkw 12 (110, 4, 129, 0) ∈ XU := gm4 112 (by decide +kernel) (by decide +kernel)
theorem xw229 : lkw 12 (114, 4, 132, 0) ∈ XU := gm4 146 (by decide +kernel) (by decide +kernel)
theorem xw230 : lkw 12 (118, 4, 109, 0) ∈ XU := gm2 177 (by decide +kernel) (by decide +kernel)
theorem xw231 : lkw 12 (121, 4, 131, 0) ∈ XU := gm4 127 (by decide +kernel) (by decide +kernel)
theorem xw232 : lkw 12 (124, 4, 134, 0) ∈ XU := gm4 124 (by decide +kernel) (by decide +kernel)
theorem xw233 : lkw 12 (127, 4, 135, 0) ∈ XU := gm4 130 (by decide +kernel) (by decide +kernel)
theorem xw234 : lkw 12 (129, 3, 1, 0) ∈ XU := gm4 133 (by decide +kernel) (by decide +kernel)
theorem xw235 : lkw 12 (134, 4, 136, 0) ∈ XU := gm4 121 (by decide +kernel) (by decide +kernel)
theorem xw236 : lkw 12 (137, 4, 138, 0) ∈ XU := gm4 171 (by decide +kernel) (by decide +kernel)
theorem xw237 : lkw 12 (141, 4, 139, 0) ∈ XU := gm4 168 (by decide +kernel) (by decide +kernel)
theorem xw238 : lkw 12 (145, 3, 3, 0) ∈ XU := gm4 181 (by decide +kernel) (by decide +kernel)
theorem xw239 : lkw 12 (148, 4, 141, 0) ∈ XU := gm4 178 (by decide +kernel) (by decide +kernel)
theorem xw240 : lkw 12 (152, 4, 137, 0) ∈ XU := gm4 161 (by decide +kernel) (by decide +kernel)
theorem xw241 : lkw 12 (158, 7, 9223372036854775807, 0) ∈ XU := gm4 164 (by decide +kernel) (by decide +kernel)
theorem xw242 : lkw 12 (160, 4, 140, 0) ∈ XU := gm4 165 (by decide +kernel) (by decide +kernel)
theorem xw243 : lkw 12 (163, 7, 100000, 0) ∈ XU := gm4 174 (by decide +kernel) (by decide +kernel)
theorem xw244 : lkw 12 (165, 4, 142, 0) ∈ XU := gm4 175 (by decide +kernel) (by decide +kernel)
theorem xw245 : lkw 12 (167, 4, 143, 0) ∈ XU := gm4 184 (by decide +kernel) (by decide +kernel)
theorem xw246 : lkw 12 (171, 3, 4, 0) ∈ XU := gm4 187 (by decide +kernel) (by decide +kernel)
theorem xw247 : lkw 12 (174, 3, 2, 0) ∈ XU := gm4 190 (by decide +kernel) (by decide +kernel)
theorem xw248 : lkw 12 (176, 4, 117, 0) ∈ XU := gm3 211 (by decide +kernel) (by decide +kernel)
theorem xw249 : lkw 12 (179, 4, 118, 0) ∈ XU := gm3 223 (by decide +kernel) (by decide +kernel)
theorem xw250 : lkw 12 (182, 4, 119, 0) ∈ XU := gm3 235 (by decide +kernel) (by decide +kernel)
theorem xw251 : lkw 12 (185, 4, 120, 0) ∈ XU := gm4 7 (by decide +kernel) (by decide +kernel)
theorem xw252 : lkw 12 (188, 4, 147, 0) ∈ XU := gm4 136 (by decide +kernel) (by decide +kernel)
theorem xw253 : lkw 12 (192, 4, 123, 0) ∈ XU := gm4 53 (by decide +kernel) (by decide +kernel)
theorem xw254 : lkw 12 (194, 4, 110, 0) ∈ XU := gm3 75 (by decide +kernel) (by decide +kernel)
theorem xw255 : lkw 12 (196, 4, 111, 0) ∈ XU := gm3 124 (by decide +kernel) (by decide +kernel)
theorem xw256 : lkw 12 (199, 4, 75, 0) ∈ XU := gm4 139 (by decide +kernel) (by decide +kernel)
theorem xw257 : lkw 12 (203, 4, 133, 0) ∈ XU := gm4 143 (by decide +kernel) (by decide +kernel)
theorem xw258 : lkw 12 (207, 4, 121, 0) ∈ XU := gm4 22 (by decide +kernel) (by decide +kernel)
theorem xw259 : lkw 12 (209, 4, 122, 0) ∈ XU := gm4 45 (by decide +kernel) (by decide +kernel)
theorem xw260 : lkw 12 (211, 4, 71, 0) ∈ XU := gm1 27 (by decide +kernel) (by decide +kernel)
theorem xw261 : lkw 12 (212, 4, 116, 0) ∈ XU := gm3 203 (by decide +kernel) (by decide +kernel)
theorem xw262 : lkw 12 (214, 4, 112, 0) ∈ XU := gm3 139 (by decide +kernel) (by decide +kernel)
theorem xw263 : lkw 12 (216, 4, 113, 0) ∈ XU := gm3 151 (by decide +kernel) (by decide +kernel)
theorem xw264 : lkw 12 (219, 4, 114, 0) ∈ XU := gm3 163 (by decide +kernel) (by decide +kernel)
theorem xw265 : lkw 12 (222, 4, 115, 0) ∈ XU := gm3 193 (by decide +kernel) (by decide +kernel)
theorem xw266 : lkw 12 (225, 4, 145, 0) ∈ XU := gm4 158 (by decide +kernel) (by decide +kernel)
theorem xw267 : lkw 12 (229, 4, 88, 0) ∈ XU := gm4 193 (by decide +kernel) (by decide +kernel)
theorem xw268 : lkw 12 (232, 4, 144, 0) ∈ XU := gm4 201 (by decide +kernel) (by decide +kernel)
theorem xw269 : lkw 12 (236, 4, 124, 0) ∈ XU := gm4 71 (by decide +kernel) (by decide +kernel)
theorem xw270 : lkw 12 (238, 4, 125, 0) ∈ XU := gm4 204 (by decide +kernel) (by decide +kernel)
theorem xw271 : lkw 12 (240, 4, 126, 0) ∈ XU := gm4 233 (by decide +kernel) (by decide +kernel)
theorem xw272 : lkw 12 (242, 4, 127, 0) ∈ XU := gm5 1 (by decide +kernel) (by decide +kernel)
theorem xw273 : lkw 12 (244, 4, 128, 0) ∈ XU := gm4 98 (by decide +kernel) (by decide +kernel)
theorem xw274 : lkw 12 (246, 4, 130, 0) ∈ XU := gm4 106 (by decide +kernel) (by decide +kernel)
theorem xw275 : lkw 12 (250, 4, 148, 0) ∈ XU := gm4 149 (by decide +kernel) (by decide +kernel)
theorem xw276 : lkw 12 (253, 4, 146, 0) ∈ XU := gm4 109 (by decide +kernel) (by decide +kernel)
theorem xw277 : lkw 12 (256, 4, 149, 0) ∈ XU := gm4 152 (by decide +kernel) (by decide +kernel)
theorem xw278 : lkw 12 (260, 4, 150, 0) ∈ XU := gm4 155 (by decide +kernel) (by decide +kernel)
theorem xw279 : lkw 12 (263, 4, 94, 0) ∈ XU := gm1 218 (by decide +kernel) (by decide +kernel)
theorem lk_ok12 : ∀ e ∈ lk12, lkw 12 e ∈ XU ∨ (8 ≤ e.2.1 ∧ lkw 12 e ∈ tables_1) := List.forall_mem_cons.mpr ⟨Or.inl xw190, List.forall_mem_cons.mpr ⟨Or.inl xw191, List.forall_mem_cons.mpr ⟨Or.inl xw192, List.forall_mem_cons.mpr ⟨Or.inl xw193, List.forall_mem_cons.mpr ⟨Or.inl xw194, List.forall_mem_cons.mpr ⟨Or.inl xw195, List.forall_mem_cons.mpr ⟨Or.inl xw196, List.forall_mem_cons.mpr ⟨Or.inl xw197, List.forall_mem_cons.mpr ⟨Or.inl xw198, List.forall_mem_cons.mpr ⟨Or.inl xw199, List.forall_mem_cons.mpr ⟨Or.inl xw200, List.forall_mem_cons.mpr ⟨Or.inl xw201, List.forall_mem_cons.mpr ⟨Or.inl xw202, List.forall_mem_cons.mpr ⟨Or.inl xw203, List.forall_mem_cons.mpr ⟨Or.inl xw204, List.forall_mem_cons.mpr ⟨Or.inl xw205, List.forall_mem_cons.mpr ⟨Or.inl xw206, List.forall_mem_cons.mpr ⟨Or.inl xw207, List.forall_mem_cons.mpr ⟨Or.inl xw208, List.forall_mem_cons.mpr ⟨Or.inl xw209, List.forall_mem_cons.mpr ⟨Or.inl xw210, List.forall_mem_cons.mpr ⟨Or.inl xw211, List.forall_mem_cons.mpr ⟨Or.inl xw212, List.forall_mem_cons.mpr ⟨Or.inl xw213, List.forall_mem_cons.mpr ⟨Or.inl xw214, List.forall_mem_cons.mpr ⟨Or.inl xw215, List.forall_mem_cons.mpr ⟨Or.inl xw216, List.forall_mem_cons.mpr ⟨Or.inl xw217, List.forall_mem_cons.mpr ⟨Or.inl xw218, List.forall_mem_cons.mpr ⟨Or.inl xw219, List.forall_mem_cons.mpr ⟨Or.inl xw220, List.forall_mem_cons.mpr ⟨Or.inl xw221, List.forall_mem_cons.mpr ⟨Or.inl xw222, List.forall_mem_cons.mpr ⟨Or.inl xw223, List.forall_mem_cons.mpr ⟨Or.inl xw224, List.forall_mem_cons.mpr ⟨Or.inl xw225, List.forall_mem_cons.mpr ⟨Or.inl xw226, List.forall_mem_cons.mpr ⟨Or.inl xw227, List.forall_mem_cons.mpr ⟨Or.inl xw228, List.forall_mem_cons.mpr ⟨Or.inl xw229, List.forall_mem_cons.mpr ⟨Or.inl xw230, List.forall_mem_cons.mpr ⟨Or.inl xw231, List.forall_mem_cons.mpr ⟨Or.inl xw232, List.forall_mem_cons.mpr ⟨Or.inl xw233, List.forall_mem_cons.mpr ⟨Or.inl xw234, List.forall_mem_cons.mpr ⟨Or.inl xw235, List.forall_mem_cons.mpr ⟨Or.inl xw236, List.forall_mem_cons.mpr ⟨Or.inl xw237, List.forall_mem_cons.mpr ⟨Or.inl xw238, List.forall_mem_cons.mpr ⟨Or.inl xw239, List.forall_mem_cons.mpr ⟨Or.inl xw240, List.forall_mem_cons.mpr ⟨Or.inl xw241, List.forall_mem_cons.mpr ⟨Or.inl xw242, List.forall_mem_cons.mpr ⟨Or.inl xw243, List.forall_mem_cons.mpr ⟨Or.inl xw244, List.forall_mem_cons.mpr ⟨Or.inl xw245, List.forall_mem_cons.mpr ⟨Or.inl xw246, List.forall_mem_cons.mpr ⟨Or.inl xw247, List.forall_mem_cons.mpr ⟨Or.inl xw248, List.forall_mem_cons.mpr ⟨Or.inl xw249, List.forall_mem_cons.mpr ⟨Or.inl xw250, List.forall_mem_cons.mpr ⟨Or.inl xw251, List.forall_mem_cons.mpr ⟨Or.inl xw252, List.forall_mem_cons.mpr ⟨Or.inl xw253, List.forall_mem_cons.mpr ⟨Or.inl xw254, List.forall_mem_cons.mpr ⟨Or.inl xw255, List.forall_mem_cons.mpr ⟨Or.inl xw256, List.forall_mem_cons.mpr ⟨Or.inl xw257, List.forall_mem_cons.mpr ⟨Or.inl xw258, List.forall_mem_cons.mpr ⟨Or.inl xw259, List.forall_mem_cons.mpr ⟨Or.inl xw260, List.forall_mem_cons.mpr ⟨Or.inl xw261, List.forall_mem_cons.mpr ⟨Or.inl xw262, List.forall_mem_cons.mpr ⟨Or.inl xw263, List.forall_mem_cons.mpr ⟨Or.inl xw264, List.forall_mem_cons.mpr ⟨Or.inl xw265, List.forall_mem_cons.mpr ⟨Or.inl xw266, List.forall_mem_cons.mpr ⟨Or.inl xw267, List.forall_mem_cons.mpr ⟨Or.inl xw268, List.forall_mem_cons.mpr ⟨Or.inl xw269, List.forall_mem_cons.mpr ⟨Or.inl xw270, List.forall_mem_cons.mpr ⟨Or.inl xw271, List.forall_mem_cons.mpr ⟨Or.inl xw272, List.forall_mem_cons.mpr ⟨Or.inl xw273, List.forall_mem_cons.mpr ⟨Or.inl xw274, List.forall_mem_cons.mpr ⟨Or.inl xw275, List.forall_mem_cons.mpr ⟨Or.inl xw276, List.forall_mem_cons.mpr ⟨Or.inl xw277, List.forall_mem_cons.mpr ⟨Or.inl xw278, List.forall_mem_cons.mpr ⟨Or.inl xw279, fun _ h => absurd h List.not_mem_nil⟩⟩⟩⟩⟩⟩⟩⟩⟩⟩⟩⟩⟩⟩⟩⟩⟩⟩⟩⟩⟩⟩⟩⟩⟩⟩⟩⟩⟩⟩⟩⟩⟩⟩⟩⟩⟩⟩⟩⟩⟩⟩⟩⟩⟩⟩⟩⟩⟩⟩⟩⟩⟩⟩⟩⟩⟩⟩⟩⟩⟩⟩⟩⟩⟩⟩⟩⟩⟩⟩⟩⟩⟩⟩⟩⟩⟩⟩⟩⟩⟩⟩⟩⟩⟩⟩⟩⟩⟩⟩
theorem lk_ok (c : Nat) (e : Nat × Nat × Nat × Nat) (h : e ∈ lks c) : lkw c e ∈ XU ∨ (8 ≤ e.2.1 ∧ lkw c e ∈ tables_1) := by
  match c, h with
  | 0, h => exact lk_ok0 e h
  | 1, h => exact lk_ok1 e h
  | 2, h => exact lk_ok2 e h
  | 3, h => exact lk_ok3 e h
  | 4, h => exact lk_ok4 e h
  | 5, h => exact lk_ok5 e h
  | 6, h => exact lk_ok6 e h
  | 7, h => exact lk_ok7 e h
  | 8, h => exact lk_ok8 e h
  | 9, h => exact lk_ok9 e h
  | 10, h => exact lk_ok10 e h
  | 11, h => exact lk_ok11 e h
  | 12, h => exact lk_ok12 e h
  | c + 13, h => exact absurd h (by simp [lks, lkl])
end
section
/-! the methods' words -/
def yw_k (mi : Nat) : Prop := match mK mi with
  | 0 => Cond.static (mY mi) ∈ XU
  | 1 => Cond.instanceMethod (mY mi) ∈ XU ∧ Cond.selects (mY mi).cls (mY mi) (mY mi) ∈ XU ∧ (kC (mO mi)).1 = (mY mi).cls ∧ mO mi < 8
  | _ => Cond.instanceMethod (mY mi) ∈ XU ∧ (mY mi).name = "<init>" ∧ mR mi = none
def mW (mi : Nat) : Cond := if mH mi = [] then .code (mY mi) (mB mi) (mL mi) (mR mi) else .codeWith (mY mi) (mB mi) (mL mi) (mR mi) (mH mi)
def yb (mi : Nat) : Bool := plainName (mY mi).cls && decide ((mY mi).cls ≠ "java/lang/invoke/MethodHandle") && decide ((mY mi).cls ≠ "java/lang/invoke/VarHandle") && decide ((parseMethodDescriptor (mY mi).desc).map (fun d => d.parameters.length) = some (mN mi)) && decide ((parseMethodDescriptor (mY mi).desc).map (fun d => d.returnType) = some (mR mi)) && decide (mL mi + 19 ≤ 64) && decide (dN (mD mi) = (mY mi).cls)
def YW (mi : Nat) : Prop := yb mi = true ∧ mW mi ∈ XU ∧ Cond.initialized (mY mi).cls ∈ XU ∧ yw_k mi
theorem sel_in {q : MethodName × Nat} (h : q ∈ lw_privs) (g : goodWord (Cond.selects q.1.cls q.1 q.1) = true) (hs : Cond.selects q.1.cls q.1 q.1 ∈ k2_sels lw_privs) : Cond.selects q.1.cls q.1 q.1 ∈ XU := List.mem_filter.mpr ⟨List.mem_append_left _ hs, g⟩
theorem xu_s {w : Cond} (i : Nat) (h : (k2_sels lw_privs)[i]? = some w) (g : goodWord w = true) : w ∈ XU := List.mem_filter.mpr ⟨List.mem_append_left _ (List.mem_of_getElem? h), g⟩
theorem yi0 : Cond.initialized (dN 0) ∈ XU := gm1 6 (by decide +kernel) (by decide +kernel)
theorem yi1 : Cond.initialized (dN 1) ∈ XU := gm1 8 (by decide +kernel) (by decide +kernel)
theorem yi2 : Cond.initialized (dN 2) ∈ XU := gm1 4 (by decide +kernel) (by decide +kernel)
theorem yi3 : Cond.initialized (dN 3) ∈ XU := gm1 3 (by decide +kernel) (by decide +kernel)
theorem yi4 : Cond.initialized (dN 4) ∈ XU := gm1 9 (by decide +kernel) (by decide +kernel)
theorem yi5 : Cond.initialized (dN 5) ∈ XU := gm1 22 (by decide +kernel) (by decide +kernel)
theorem yi6 : Cond.initialized (dN 6) ∈ XU := gm1 5 (by decide +kernel) (by decide +kernel)
theorem yi7 : Cond.initialized (dN 7) ∈ XU := gm1 2 (by decide +kernel) (by decide +kernel)
theorem yi8 : Cond.initialized (dN 8) ∈ XU := gm1 7 (by decide +kernel) (by decide +kernel)
theorem yi9 : Cond.initialized (dN 9) ∈ XU := gm1 1 (by decide +kernel) (by decide +kernel)
theorem yi10 : Cond.initialized (dN 10) ∈ XU := gm1 20 (by decide +kernel) (by decide +kernel)
theorem yi11 : Cond.initialized (dN 11) ∈ XU := gm1 21 (by decide +kernel) (by decide +kernel)
theorem yi12 : Cond.initialized (dN 12) ∈ XU := gm1 0 (by decide +kernel) (by decide +kernel)
theorem ya0 : mW 0 ∈ XU := gm1 117 (by decide +kernel) (by decide +kernel)
theorem yk0 : yw_k 0 := ⟨gm1 116 (by decide +kernel) (by decide +kernel), by decide +kernel, by decide +kernel⟩
theorem yw0 : YW 0 := ⟨by decide +kernel, ya0, yi0, yk0⟩
theorem ya1 : mW 1 ∈ XU := gm2 140 (by decide +kernel) (by decide +kernel)
theorem yk1 : yw_k 1 := ⟨gm2 138 (by decide +kernel) (by decide +kernel), gm2 139 (by decide +kernel) (by decide +kernel), by decide +kernel, by decide +kernel⟩
theorem yw1 : YW 1 := ⟨by decide +kernel, ya1, yi0, yk1⟩
theorem ya2 : mW 2 ∈ XU := gm2 112 (by decide +kernel) (by decide +kernel)
theorem yk2 : yw_k 2 := ⟨gm2 110 (by decide +kernel) (by decide +kernel), gm2 111 (by decide +kernel) (by decide +kernel), by decide +kernel, by decide +kernel⟩
theorem yw2 : YW 2 := ⟨by decide +kernel, ya2, yi0, yk2⟩
theorem ya3 : mW 3 ∈ XU := gm2 148 (by decide +kernel) (by decide +kernel)
theorem yk3 : yw_k 3 := ⟨gm2 146 (by decide +kernel) (by decide +kernel), gm2 147 (by decide +kernel) (by decide +kernel), by decide +kernel, by decide +kernel⟩
theorem yw3 : YW 3 := ⟨by decide +kernel, ya3, yi0, yk3⟩
theorem ya4 : mW 4 ∈ XU := gm2 144 (by decide +kernel) (by decide +kernel)
theorem yk4 : yw_k 4 := ⟨gm2 142 (by decide +kernel) (by decide +kernel), gm2 143 (by decide +kernel) (by decide +kernel), by decide +kernel, by decide +kernel⟩
theorem yw4 : YW 4 := ⟨by decide +kernel, ya4, yi0, yk4⟩
theorem ya5 : mW 5 ∈ XU := gm1 229 (by decide +kernel) (by decide +kernel)
theorem yk5 : yw_k 5 := ⟨gm1 227 (by decide +kernel) (by decide +kernel), gm1 228 (by decide +kernel) (by decide +kernel), by decide +kernel, by decide +kernel⟩
theorem yw5 : YW 5 := ⟨by decide +kernel, ya5, yi0, yk5⟩
theorem ya6 : mW 6 ∈ XU := gm2 95 (by decide +kernel) (by decide +kernel)
theorem yk6 : yw_k 6 := ⟨gm2 93 (by decide +kernel) (by decide +kernel), gm2 94 (by decide +kernel) (by decide +kernel), by decide +kernel, by decide +kernel⟩
theorem yw6 : YW 6 := ⟨by decide +kernel, ya6, yi0, yk6⟩
theorem ya7 : mW 7 ∈ XU := gm2 107 (by decide +kernel) (by decide +kernel)
theorem yk7 : yw_k 7 := ⟨gm2 105 (by decide +kernel) (by decide +kernel), gm2 106 (by decide +kernel) (by decide +kernel), by decide +kernel, by decide +kernel⟩
theorem yw7 : YW 7 := ⟨by decide +kernel, ya7, yi0, yk7⟩
theorem ya8 : mW 8 ∈ XU := gm1 192 (by decide +kernel) (by decide +kernel)
theorem yk8 : yw_k 8 := gm1 191 (by decide +kernel) (by decide +kernel)
theorem yw8 : YW 8 := ⟨by decide +kernel, ya8, yi1, yk8⟩
theorem ya9 : mW 9 ∈ XU := gm2 10 (by decide +kernel) (by decide +kernel)
theorem yk9 : yw_k 9 := gm2 9 (by decide +kernel) (by decide +kernel)
theorem yw9 : YW 9 := ⟨by decide +kernel, ya9, yi1, yk9⟩
theorem ya10 : mW 10 ∈ XU := gm2 13 (by decide +kernel) (by decide +kernel)
theorem yk10 : yw_k 10 := gm2 12 (by decide +kernel) (by decide +kernel)
theorem yw10 : YW 10 := ⟨by decide +kernel, ya10, yi1, yk10⟩
theorem ya11 : mW 11 ∈ XU := gm1 155 (by decide +kernel) (by decide +kernel)
theorem yk11 : yw_k 11 := gm1 154 (by decide +kernel) (by decide +kernel)
theorem yw11 : YW 11 := ⟨by decide +kernel, ya11, yi1, yk11⟩
theorem ya12 : mW 12 ∈ XU := gm1 239 (by decide +kernel) (by decide +kernel)
theorem yk12 : yw_k 12 := gm1 238 (by decide +kernel) (by decide +kernel)
theorem yw12 : YW 12 := ⟨by decide +kernel, ya12, yi1, yk12⟩
theorem ya13 : mW 13 ∈ XU := gm2 40 (by decide +kernel) (by decide +kernel)
theorem yk13 : yw_k 13 := gm2 39 (by decide +kernel) (by decide +kernel)
theorem yw13 : YW 13 := ⟨by decide +kernel, ya13, yi1, yk13⟩
theorem ya14 : mW 14 ∈ XU := gm2 98 (by decide +kernel) (by decide +kernel)
theorem yk14 : yw_k 14 := gm2 97 (by decide +kernel) (by decide +kernel)
theorem yw14 : YW 14 := ⟨by decide +kernel, ya14, yi1, yk14⟩
theorem ya15 : mW 15 ∈ XU := gm1 152 (by decide +kernel) (by decide +kernel)
theorem yk15 : yw_k 15 := gm1 151 (by decide +kernel) (by decide +kernel)
theorem yw15 : YW 15 := ⟨by decide +kernel, ya15, yi1, yk15⟩
theorem ya16 : mW 16 ∈ XU := gm1 89 (by decide +kernel) (by decide +kernel)
theorem yk16 : yw_k 16 := ⟨gm1 88 (by decide +kernel) (by decide +kernel), by decide +kernel, by decide +kernel⟩
theorem yw16 : YW 16 := ⟨by decide +kernel, ya16, yi2, yk16⟩
theorem ya17 : mW 17 ∈ XU := gm4 63 (by decide +kernel) (by decide +kernel)
theorem yk17 : yw_k 17 := ⟨gm4 61 (by decide +kernel) (by decide +kernel), gm4 62 (by decide +kernel) (by decide +kernel), by decide +kernel, by decide +kernel⟩
theorem yw17 : YW 17 := ⟨by decide +kernel, ya17, yi2, yk17⟩
theorem ya18 : mW 18 ∈ XU := gm4 69 (by decide +kernel) (by decide +kernel)
theorem yk18 : yw_k 18 := ⟨gm4 67 (by decide +kernel) (by decide +kernel), gm4 68 (by decide +kernel) (by decide +kernel), by decide +kernel, by decide +kernel⟩
theorem yw18 : YW 18 := ⟨by decide +kernel, ya18, yi2, yk18⟩
theorem ya19 : mW 19 ∈ XU := gm2 44 (by decide +kernel) (by decide +kernel)
theorem yk19 : yw_k 19 := ⟨gm2 42 (by decide +kernel) (by decide +kernel), gm2 43 (by decide +kernel) (by decide +kernel), by decide +kernel, by decide +kernel⟩
theorem yw19 : YW 19 := ⟨by decide +kernel, ya19, yi2, yk19⟩
theorem ya20 : mW 20 ∈ XU := gm2 68 (by decide +kernel) (by decide +kernel)
theorem yk20 : yw_k 20 := ⟨gm2 66 (by decide +kernel) (by decide +kernel), gm2 67 (by decide +kernel) (by decide +kernel), by decide +kernel, by decide +kernel⟩
theorem yw20 : YW 20 := ⟨by decide +kernel, ya20, yi2, yk20⟩
theorem ya21 : mW 21 ∈ XU := gm2 80 (by decide +kernel) (by decide +kernel)
theorem yk21 : yw_k 21 := gm2 79 (by decide +kernel) (by decide +kernel)
theorem yw21 : YW 21 := ⟨by decide +kernel, ya21, yi2, yk21⟩
theorem ya22 : mW 22 ∈ XU := gm2 49 (by decide +kernel) (by decide +kernel)
theorem yk22 : yw_k 22 := gm2 48 (by decide +kernel) (by decide +kernel)
theorem yw22 : YW 22 := ⟨by decide +kernel, ya22, yi2, yk22⟩
theorem ya23 : mW 23 ∈ XU := gm1 70 (by decide +kernel) (by decide +kernel)
theorem yk23 : yw_k 23 := ⟨gm1 69 (by decide +kernel) (by decide +kernel), by decide +kernel, by decide +kernel⟩
theorem yw23 : YW 23 := ⟨by decide +kernel, ya23, yi3, yk23⟩
theorem ya24 : mW 24 ∈ XU := gm4 5 (by decide +kernel) (by decide +kernel)
theorem yk24 : yw_k 24 := ⟨gm4 3 (by decide +kernel) (by decide +kernel), gm4 4 (by decide +kernel) (by decide +kernel), by decide +kernel, by decide +kernel⟩
theorem yw24 : YW 24 := ⟨by decide +kernel, ya24, yi3, yk24⟩
theorem ya25 : mW 25 ∈ XU := gm4 21 (by decide +kernel) (by decide +kernel)
theorem yk25 : yw_k 25 := ⟨gm4 19 (by decide +kernel) (by decide +kernel), gm4 20 (by decide +kernel) (by decide +kernel), by decide +kernel, by decide +kernel⟩
theorem yw25 : YW 25 := ⟨by decide +kernel, ya25, yi3, yk25⟩
theorem ya26 : mW 26 ∈ XU := gm2 33 (by decide +kernel) (by decide +kernel)
theorem yk26 : yw_k 26 := ⟨gm2 31 (by decide +kernel) (by decide +kernel), gm2 32 (by decide +kernel) (by decide +kernel), by decide +kernel, by decide +kernel⟩
theorem yw26 : YW 26 := ⟨by decide +kernel, ya26, yi3, yk26⟩
theorem ya27 : mW 27 ∈ XU := gm4 44 (by decide +kernel) (by decide +kernel)
theorem yk27 : yw_k 27 := ⟨gm4 42 (by decide +kernel) (by decide +kernel), gm4 43 (by decide +kernel) (by decide +kernel), by decide +kernel, by decide +kernel⟩
theorem yw27 : YW 27 := ⟨by decide +kernel, ya27, yi3, yk27⟩
theorem ya28 : mW 28 ∈ XU := gm2 156 (by decide +kernel) (by decide +kernel)
theorem yk28 : yw_k 28 := ⟨gm2 154 (by decide +kernel) (by decide +kernel), gm2 155 (by decide +kernel) (by decide +kernel), by decide +kernel, by decide +kernel⟩
theorem yw28 : YW 28 := ⟨by decide +kernel, ya28, yi3, yk28⟩
theorem ya29 : mW 29 ∈ XU := gm2 7 (by decide +kernel) (by decide +kernel)
theorem yk29 : yw_k 29 := ⟨gm2 5 (by decide +kernel) (by decide +kernel), gm2 6 (by decide +kernel) (by decide +kernel), by decide +kernel, by decide +kernel⟩
theorem yw29 : YW 29 := ⟨by decide +kernel, ya29, yi3, yk29⟩
theorem ya30 : mW 30 ∈ XU := gm2 22 (by decide +kernel) (by decide +kernel)
theorem yk30 : yw_k 30 := ⟨gm2 20 (by decide +kernel) (by decide +kernel), gm2 21 (by decide +kernel) (by decide +kernel), by decide +kernel, by decide +kernel⟩
theorem yw30 : YW 30 := ⟨by decide +kernel, ya30, yi3, yk30⟩
theorem ya31 : mW 31 ∈ XU := gm2 29 (by decide +kernel) (by decide +kernel)
theorem yk31 : yw_k 31 := ⟨gm2 28 (by decide +kernel) (by decide +kernel), xu_s 2 (by decide +kernel) (by decide +kernel), by decide +kernel, by decide +kernel⟩
theorem yw31 : YW 31 := ⟨by decide +kernel, ya31, yi3, yk31⟩
theorem ya32 : mW 32 ∈ XU := gm2 37 (by decide +kernel) (by decide +kernel)
theorem yk32 : yw_k 32 := ⟨gm2 36 (by decide +kernel) (by decide +kernel), xu_s 3 (by decide +kernel) (by decide +kernel), by decide +kernel, by decide +kernel⟩
theorem yw32 : YW 32 := ⟨by decide +kernel, ya32, yi3, yk32⟩
theorem ya33 : mW 33 ∈ XU := gm1 179 (by decide +kernel) (by decide +kernel)
theorem yk33 : yw_k 33 := ⟨gm1 178 (by decide +kernel) (by decide +kernel), by decide +kernel, by decide +kernel⟩
theorem yw33 : YW 33 := ⟨by decide +kernel, ya33, yi4, yk33⟩
theorem ya34 : mW 34 ∈ XU := gm2 91 (by decide +kernel) (by decide +kernel)
theorem yk34 : yw_k 34 := gm2 90 (by decide +kernel) (by decide +kernel)
theorem yw34 : YW 34 := ⟨by decide +kernel, ya34, yi5, yk34⟩
theorem ya35 : mW 35 ∈ XU := gm2 176 (by decide +kernel) (by decide +kernel)
theorem yk35 : yw_k 35 := gm2 175 (by decide +kernel) (by decide +kernel)
theorem yw35 : YW 35 := ⟨by decide +kernel, ya35, yi5, yk35⟩
theorem ya36 : mW 36 ∈ XU := gm2 151 (by decide +kernel) (by decide +kernel)
theorem yk36 : yw_k 36 := gm2 150 (by decide +kernel) (by decide +kernel)
theorem yw36 : YW 36 := ⟨by decide +kernel, ya36, yi5, yk36⟩
theorem ya37 : mW 37 ∈ XU := gm1 111 (by decide +kernel) (by decide +kernel)
theorem yk37 : yw_k 37 := ⟨gm1 110 (by decide +kernel) (by decide +kernel), by decide +kernel, by decide +kernel⟩
theorem yw37 : YW 37 := ⟨by decide +kernel, ya37, yi6, yk37⟩
theorem ya38 : mW 38 ∈ XU := gm3 72 (by decide +kernel) (by decide +kernel)
theorem yk38 : yw_k 38 := ⟨gm3 70 (by decide +kernel) (by decide +kernel), gm3 71 (by decide +kernel) (by decide +kernel), by decide +kernel, by decide +kernel⟩
theorem yw38 : YW 38 := ⟨by decide +kernel, ya38, yi6, yk38⟩
theorem ya39 : mW 39 ∈ XU := gm1 225 (by decide +kernel) (by decide +kernel)
theorem yk39 : yw_k 39 := ⟨gm1 223 (by decide +kernel) (by decide +kernel), gm1 224 (by decide +kernel) (by decide +kernel), by decide +kernel, by decide +kernel⟩
theorem yw39 : YW 39 := ⟨by decide +kernel, ya39, yi6, yk39⟩
theorem ya40 : mW 40 ∈ XU := gm1 236 (by decide +kernel) (by decide +kernel)
theorem yk40 : yw_k 40 := ⟨gm1 235 (by decide +kernel) (by decide +kernel), xu_s 0 (by decide +kernel) (by decide +kernel), by decide +kernel, by decide +kernel⟩
theorem yw40 : YW 40 := ⟨by decide +kernel, ya40, yi6, yk40⟩
theorem ya41 : mW 41 ∈ XU := gm2 103 (by decide +kernel) (by decide +kernel)
theorem yk41 : yw_k 41 := ⟨gm2 102 (by decide +kernel) (by decide +kernel), xu_s 4 (by decide +kernel) (by decide +kernel), by decide +kernel, by decide +kernel⟩
theorem yw41 : YW 41 := ⟨by decide +kernel, ya41, yi6, yk41⟩
theorem ya42 : mW 42 ∈ XU := gm2 3 (by decide +kernel) (by decide +kernel)
theorem yk42 : yw_k 42 := ⟨gm2 2 (by decide +kernel) (by decide +kernel), xu_s 1 (by decide +kernel) (by decide +kernel), by decide +kernel, by decide +kernel⟩
theorem yw42 : YW 42 := ⟨by decide +kernel, ya42, yi6, yk42⟩
theorem ya43 : mW 43 ∈ XU := gm1 37 (by decide +kernel) (by decide +kernel)
theorem yk43 : yw_k 43 := ⟨gm1 36 (by decide +kernel) (by decide +kernel), by decide +kernel, by decide +kernel⟩
theorem yw43 : YW 43 := ⟨by decide +kernel, ya43, yi7, yk43⟩
theorem ya44 : mW 44 ∈ XU := gm2 84 (by decide +kernel) (by decide +kernel)
theorem yk44 : yw_k 44 := ⟨gm2 82 (by decide +kernel) (by decide +kernel), gm2 83 (by decide +kernel) (by decide +kernel), by decide +kernel, by decide +kernel⟩
theorem yw44 : YW 44 := ⟨by decide +kernel, ya44, yi7, yk44⟩
theorem ya45 : mW 45 ∈ XU := gm3 49 (by decide +kernel) (by decide +kernel)
theorem yk45 : yw_k 45 := ⟨gm3 47 (by decide +kernel) (by decide +kernel), gm3 48 (by decide +kernel) (by decide +kernel), by decide +kernel, by decide +kernel⟩
theorem yw45 : YW 45 := ⟨by decide +kernel, ya45, yi7, yk45⟩
theorem ya46 : mW 46 ∈ XU := gm3 61 (by decide +kernel) (by decide +kernel)
theorem yk46 : yw_k 46 := ⟨gm3 59 (by decide +kernel) (by decide +kernel), gm3 60 (by decide +kernel) (by decide +kernel), by decide +kernel, by decide +kernel⟩
theorem yw46 : YW 46 := ⟨by decide +kernel, ya46, yi7, yk46⟩
theorem ya47 : mW 47 ∈ XU := gm2 18 (by decide +kernel) (by decide +kernel)
theorem yk47 : yw_k 47 := ⟨gm2 16 (by decide +kernel) (by decide +kernel), gm2 17 (by decide +kernel) (by decide +kernel), by decide +kernel, by decide +kernel⟩
theorem yw47 : YW 47 := ⟨by decide +kernel, ya47, yi7, yk47⟩
theorem ya48 : mW 48 ∈ XU := gm3 233 (by decide +kernel) (by decide +kernel)
theorem yk48 : yw_k 48 := ⟨gm3 231 (by decide +kernel) (by decide +kernel), gm3 232 (by decide +kernel) (by decide +kernel), by decide +kernel, by decide +kernel⟩
theorem yw48 : YW 48 := ⟨by decide +kernel, ya48, yi7, yk48⟩
theorem ya49 : mW 49 ∈ XU := gm3 187 (by decide +kernel) (by decide +kernel)
theorem yk49 : yw_k 49 := ⟨gm3 185 (by decide +kernel) (by decide +kernel), gm3 186 (by decide +kernel) (by decide +kernel), by decide +kernel, by decide +kernel⟩
theorem yw49 : YW 49 := ⟨by decide +kernel, ya49, yi7, yk49⟩
theorem ya50 : mW 50 ∈ XU := gm2 88 (by decide +kernel) (by decide +kernel)
theorem yk50 : yw_k 50 := ⟨gm2 86 (by decide +kernel) (by decide +kernel), gm2 87 (by decide +kernel) (by decide +kernel), by decide +kernel, by decide +kernel⟩
theorem yw50 : YW 50 := ⟨by decide +kernel, ya50, yi7, yk50⟩
theorem ya51 : mW 51 ∈ XU := gm3 161 (by decide +kernel) (by decide +kernel)
theorem yk51 : yw_k 51 := ⟨gm3 159 (by decide +kernel) (by decide +kernel), gm3 160 (by decide +kernel) (by decide +kernel), by decide +kernel, by decide +kernel⟩
theorem yw51 : YW 51 := ⟨by decide +kernel, ya51, yi7, yk51⟩
theorem ya52 : mW 52 ∈ XU := gm2 55 (by decide +kernel) (by decide +kernel)
theorem yk52 : yw_k 52 := ⟨gm2 53 (by decide +kernel) (by decide +kernel), gm2 54 (by decide +kernel) (by decide +kernel), by decide +kernel, by decide +kernel⟩
theorem yw52 : YW 52 := ⟨by decide +kernel, ya52, yi7, yk52⟩
theorem ya53 : mW 53 ∈ XU := gm2 25 (by decide +kernel) (by decide +kernel)
theorem yk53 : yw_k 53 := gm2 24 (by decide +kernel) (by decide +kernel)
theorem yw53 : YW 53 := ⟨by decide +kernel, ya53, yi7, yk53⟩
theorem ya54 : mW 54 ∈ XU := gm4 215 (by decide +kernel) (by decide +kernel)
theorem yk54 : yw_k 54 := ⟨gm4 213 (by decide +kernel) (by decide +kernel), gm4 214 (by decide +kernel) (by decide +kernel), by decide +kernel, by decide +kernel⟩
theorem yw54 : YW 54 := ⟨by decide +kernel, ya54, yi7, yk54⟩
theorem ya55 : mW 55 ∈ XU := gm3 41 (by decide +kernel) (by decide +kernel)
theorem yk55 : yw_k 55 := ⟨gm3 39 (by decide +kernel) (by decide +kernel), gm3 40 (by decide +kernel) (by decide +kernel), by decide +kernel, by decide +kernel⟩
theorem yw55 : YW 55 := ⟨by decide +kernel, ya55, yi7, yk55⟩
theorem ya56 : mW 56 ∈ XU := gm3 123 (by decide +kernel) (by decide +kernel)
theorem yk56 : yw_k 56 := ⟨gm3 121 (by decide +kernel) (by decide +kernel), gm3 122 (by decide +kernel) (by decide +kernel), by decide +kernel, by decide +kernel⟩
theorem yw56 : YW 56 := ⟨by decide +kernel, ya56, yi7, yk56⟩
theorem ya57 : mW 57 ∈ XU := gm3 138 (by decide +kernel) (by decide +kernel)
theorem yk57 : yw_k 57 := ⟨gm3 136 (by decide +kernel) (by decide +kernel), gm3 137 (by decide +kernel) (by decide +kernel), by decide +kernel, by decide +kernel⟩
theorem yw57 : YW 57 := ⟨by decide +kernel, ya57, yi7, yk57⟩
theorem ya58 : mW 58 ∈ XU := gm3 222 (by decide +kernel) (by decide +kernel)
theorem yk58 : yw_k 58 := ⟨gm3 220 (by decide +kernel) (by decide +kernel), gm3 221 (by decide +kernel) (by decide +kernel), by decide +kernel, by decide +kernel⟩
theorem yw58 : YW 58 := ⟨by decide +kernel, ya58, yi7, yk58⟩
theorem ya59 : mW 59 ∈ XU := gm3 45 (by decide +kernel) (by decide +kernel)
theorem yk59 : yw_k 59 := ⟨gm3 44 (by decide +kernel) (by decide +kernel), xu_s 11 (by decide +kernel) (by decide +kernel), by decide +kernel, by decide +kernel⟩
theorem yw59 : YW 59 := ⟨by decide +kernel, ya59, yi7, yk59⟩
theorem ya60 : mW 60 ∈ XU := gm3 53 (by decide +kernel) (by decide +kernel)
theorem yk60 : yw_k 60 := ⟨gm3 52 (by decide +kernel) (by decide +kernel), xu_s 12 (by decide +kernel) (by decide +kernel), by decide +kernel, by decide +kernel⟩
theorem yw60 : YW 60 := ⟨by decide +kernel, ya60, yi7, yk60⟩
theorem ya61 : mW 61 ∈ XU := gm3 57 (by decide +kernel) (by decide +kernel)
theorem yk61 : yw_k 61 := ⟨gm3 56 (by decide +kernel) (by decide +kernel), xu_s 13 (by decide +kernel) (by decide +kernel), by decide +kernel, by decide +kernel⟩
theorem yw61 : YW 61 := ⟨by decide +kernel, ya61, yi7, yk61⟩
theorem ya62 : mW 62 ∈ XU := gm3 65 (by decide +kernel) (by decide +kernel)
theorem yk62 : yw_k 62 := ⟨gm3 64 (by decide +kernel) (by decide +kernel), xu_s 14 (by decide +kernel) (by decide +kernel), by decide +kernel, by decide +kernel⟩
theorem yw62 : YW 62 := ⟨by decide +kernel, ya62, yi7, yk62⟩
theorem ya63 : mW 63 ∈ XU := gm3 68 (by decide +kernel) (by decide +kernel)
theorem yk63 : yw_k 63 := gm3 67 (by decide +kernel) (by decide +kernel)
theorem yw63 : YW 63 := ⟨by decide +kernel, ya63, yi7, yk63⟩
theorem ya64 : mW 64 ∈ XU := gm1 143 (by decide +kernel) (by decide +kernel)
theorem yk64 : yw_k 64 := ⟨gm1 142 (by decide +kernel) (by decide +kernel), by decide +kernel, by decide +kernel⟩
theorem yw64 : YW 64 := ⟨by decide +kernel, ya64, yi8, yk64⟩
theorem ya65 : mW 65 ∈ XU := gm2 167 (by decide +kernel) (by decide +kernel)
theorem yk65 : yw_k 65 := ⟨gm2 165 (by decide +kernel) (by decide +kernel), gm2 166 (by decide +kernel) (by decide +kernel), by decide +kernel, by decide +kernel⟩
theorem yw65 : YW 65 := ⟨by decide +kernel, ya65, yi8, yk65⟩
theorem ya66 : mW 66 ∈ XU := gm4 200 (by decide +kernel) (by decide +kernel)
theorem yk66 : yw_k 66 := ⟨gm4 198 (by decide +kernel) (by decide +kernel), gm4 199 (by decide +kernel) (by decide +kernel), by decide +kernel, by decide +kernel⟩
theorem yw66 : YW 66 := ⟨by decide +kernel, ya66, yi8, yk66⟩
theorem ya67 : mW 67 ∈ XU := gm2 116 (by decide +kernel) (by decide +kernel)
theorem yk67 : yw_k 67 := ⟨gm2 114 (by decide +kernel) (by decide +kernel), gm2 115 (by decide +kernel) (by decide +kernel), by decide +kernel, by decide +kernel⟩
theorem yw67 : YW 67 := ⟨by decide +kernel, ya67, yi8, yk67⟩
theorem ya68 : mW 68 ∈ XU := gm2 120 (by decide +kernel) (by decide +kernel)
theorem yk68 : yw_k 68 := ⟨gm2 119 (by decide +kernel) (by decide +kernel), xu_s 5 (by decide +kernel) (by decide +kernel), by decide +kernel, by decide +kernel⟩
theorem yw68 : YW 68 := ⟨by decide +kernel, ya68, yi8, yk68⟩
theorem ya69 : mW 69 ∈ XU := gm2 126 (by decide +kernel) (by decide +kernel)
theorem yk69 : yw_k 69 := ⟨gm2 125 (by decide +kernel) (by decide +kernel), xu_s 6 (by decide +kernel) (by decide +kernel), by decide +kernel, by decide +kernel⟩
theorem yw69 : YW 69 := ⟨by decide +kernel, ya69, yi8, yk69⟩
theorem ya70 : mW 70 ∈ XU := gm1 149 (by decide +kernel) (by decide +kernel)
theorem yk70 : yw_k 70 := gm1 148 (by decide +kernel) (by decide +kernel)
theorem yw70 : YW 70 := ⟨by decide +kernel, ya70, yi8, yk70⟩
theorem ya71 : mW 71 ∈ XU := gm1 29 (by decide +kernel) (by decide +kernel)
theorem yk71 : yw_k 71 := ⟨gm1 28 (by decide +kernel) (by decide +kernel), by decide +kernel, by decide +kernel⟩
theorem yw71 : YW 71 := ⟨by decide +kernel, ya71, yi9, yk71⟩
theorem ya72 : mW 72 ∈ XU := gm2 185 (by decide +kernel) (by decide +kernel)
theorem yk72 : yw_k 72 := ⟨gm2 183 (by decide +kernel) (by decide +kernel), gm2 184 (by decide +kernel) (by decide +kernel), by decide +kernel, by decide +kernel⟩
theorem yw72 : YW 72 := ⟨by decide +kernel, ya72, yi9, yk72⟩
theorem ya73 : mW 73 ∈ XU := gm3 105 (by decide +kernel) (by decide +kernel)
theorem yk73 : yw_k 73 := ⟨gm3 103 (by decide +kernel) (by decide +kernel), gm3 104 (by decide +kernel) (by decide +kernel), by decide +kernel, by decide +kernel⟩
theorem yw73 : YW 73 := ⟨by decide +kernel, ya73, yi9, yk73⟩
theorem ya74 : mW 74 ∈ XU := gm3 130 (by decide +kernel) (by decide +kernel)
theorem yk74 : yw_k 74 := ⟨gm3 128 (by decide +kernel) (by decide +kernel), gm3 129 (by decide +kernel) (by decide +kernel), by decide +kernel, by decide +kernel⟩
theorem yw74 : YW 74 := ⟨by decide +kernel, ya74, yi9, yk74⟩
theorem ya75 : mW 75 ∈ XU := gm4 142 (by decide +kernel) (by decide +kernel)
theorem yk75 : yw_k 75 := ⟨gm4 140 (by decide +kernel) (by decide +kernel), gm4 141 (by decide +kernel) (by decide +kernel), by decide +kernel, by decide +kernel⟩
theorem yw75 : YW 75 := ⟨by decide +kernel, ya75, yi9, yk75⟩
theorem ya76 : mW 76 ∈ XU := gm3 145 (by decide +kernel) (by decide +kernel)
theorem yk76 : yw_k 76 := ⟨gm3 143 (by decide +kernel) (by decide +kernel), gm3 144 (by decide +kernel) (by decide +kernel), by decide +kernel, by decide +kernel⟩
theorem yw76 : YW 76 := ⟨by decide +kernel, ya76, yi9, yk76⟩
theorem ya77 : mW 77 ∈ XU := gm3 157 (by decide +kernel) (by decide +kernel)
theorem yk77 : yw_k 77 := ⟨gm3 155 (by decide +kernel) (by decide +kernel), gm3 156 (by decide +kernel) (by decide +kernel), by decide +kernel, by decide +kernel⟩
theorem yw77 : YW 77 := ⟨by decide +kernel, ya77, yi9, yk77⟩
theorem ya78 : mW 78 ∈ XU := gm3 183 (by decide +kernel) (by decide +kernel)
theorem yk78 : yw_k 78 := ⟨gm3 181 (by decide +kernel) (by decide +kernel), gm3 182 (by decide +kernel) (by decide +kernel), by decide +kernel, by decide +kernel⟩
theorem yw78 : YW 78 := ⟨by decide +kernel, ya78, yi9, yk78⟩
theorem ya79 : mW 79 ∈ XU := gm3 199 (by decide +kernel) (by decide +kernel)
theorem yk79 : yw_k 79 := ⟨gm3 197 (by decide +kernel) (by decide +kernel), gm3 198 (by decide +kernel) (by decide +kernel), by decide +kernel, by decide +kernel⟩
theorem yw79 : YW 79 := ⟨by decide +kernel, ya79, yi9, yk79⟩
theorem ya80 : mW 80 ∈ XU := gm3 209 (by decide +kernel) (by decide +kernel)
theorem yk80 : yw_k 80 := ⟨gm3 207 (by decide +kernel) (by decide +kernel), gm3 208 (by decide +kernel) (by decide +kernel), by decide +kernel, by decide +kernel⟩
theorem yw80 : YW 80 := ⟨by decide +kernel, ya80, yi9, yk80⟩
theorem ya81 : mW 81 ∈ XU := gm3 217 (by decide +kernel) (by decide +kernel)
theorem yk81 : yw_k 81 := ⟨gm3 215 (by decide +kernel) (by decide +kernel), gm3 216 (by decide +kernel) (by decide +kernel), by decide +kernel, by decide +kernel⟩
theorem yw81 : YW 81 := ⟨by decide +kernel, ya81, yi9, yk81⟩
theorem ya82 : mW 82 ∈ XU := gm3 229 (by decide +kernel) (by decide +kernel)
theorem yk82 : yw_k 82 := ⟨gm3 227 (by decide +kernel) (by decide +kernel), gm3 228 (by decide +kernel) (by decide +kernel), by decide +kernel, by decide +kernel⟩
theorem yw82 : YW 82 := ⟨by decide +kernel, ya82, yi9, yk82⟩
theorem ya83 : mW 83 ∈ XU := gm4 1 (by decide +kernel) (by decide +kernel)
theorem yk83 : yw_k 83 := ⟨gm3 239 (by decide +kernel) (by decide +kernel), gm4 0 (by decide +kernel) (by decide +kernel), by decide +kernel, by decide +kernel⟩
theorem yw83 : YW 83 := ⟨by decide +kernel, ya83, yi9, yk83⟩
theorem ya84 : mW 84 ∈ XU := gm4 13 (by decide +kernel) (by decide +kernel)
theorem yk84 : yw_k 84 := ⟨gm4 11 (by decide +kernel) (by decide +kernel), gm4 12 (by decide +kernel) (by decide +kernel), by decide +kernel, by decide +kernel⟩
theorem yw84 : YW 84 := ⟨by decide +kernel, ya84, yi9, yk84⟩
theorem ya85 : mW 85 ∈ XU := gm4 28 (by decide +kernel) (by decide +kernel)
theorem yk85 : yw_k 85 := ⟨gm4 26 (by decide +kernel) (by decide +kernel), gm4 27 (by decide +kernel) (by decide +kernel), by decide +kernel, by decide +kernel⟩
theorem yw85 : YW 85 := ⟨by decide +kernel, ya85, yi9, yk85⟩
theorem ya86 : mW 86 ∈ XU := gm4 51 (by decide +kernel) (by decide +kernel)
theorem yk86 : yw_k 86 := ⟨gm4 49 (by decide +kernel) (by decide +kernel), gm4 50 (by decide +kernel) (by decide +kernel), by decide +kernel, by decide +kernel⟩
theorem yw86 : YW 86 := ⟨by decide +kernel, ya86, yi9, yk86⟩
theorem ya87 : mW 87 ∈ XU := gm4 59 (by decide +kernel) (by decide +kernel)
theorem yk87 : yw_k 87 := ⟨gm4 57 (by decide +kernel) (by decide +kernel), gm4 58 (by decide +kernel) (by decide +kernel), by decide +kernel, by decide +kernel⟩
theorem yw87 : YW 87 := ⟨by decide +kernel, ya87, yi9, yk87⟩
theorem ya88 : mW 88 ∈ XU := gm4 196 (by decide +kernel) (by decide +kernel)
theorem yk88 : yw_k 88 := ⟨gm4 194 (by decide +kernel) (by decide +kernel), gm4 195 (by decide +kernel) (by decide +kernel), by decide +kernel, by decide +kernel⟩
theorem yw88 : YW 88 := ⟨by decide +kernel, ya88, yi9, yk88⟩
theorem ya89 : mW 89 ∈ XU := gm4 78 (by decide +kernel) (by decide +kernel)
theorem yk89 : yw_k 89 := ⟨gm4 76 (by decide +kernel) (by decide +kernel), gm4 77 (by decide +kernel) (by decide +kernel), by decide +kernel, by decide +kernel⟩
theorem yw89 : YW 89 := ⟨by decide +kernel, ya89, yi9, yk89⟩
theorem ya90 : mW 90 ∈ XU := gm4 211 (by decide +kernel) (by decide +kernel)
theorem yk90 : yw_k 90 := ⟨gm4 209 (by decide +kernel) (by decide +kernel), gm4 210 (by decide +kernel) (by decide +kernel), by decide +kernel, by decide +kernel⟩
theorem yw90 : YW 90 := ⟨by decide +kernel, ya90, yi9, yk90⟩
theorem ya91 : mW 91 ∈ XU := gm4 239 (by decide +kernel) (by decide +kernel)
theorem yk91 : yw_k 91 := ⟨gm4 237 (by decide +kernel) (by decide +kernel), gm4 238 (by decide +kernel) (by decide +kernel), by decide +kernel, by decide +kernel⟩
theorem yw91 : YW 91 := ⟨by decide +kernel, ya91, yi9, yk91⟩
theorem ya92 : mW 92 ∈ XU := gm5 7 (by decide +kernel) (by decide +kernel)
theorem yk92 : yw_k 92 := ⟨gm5 5 (by decide +kernel) (by decide +kernel), gm5 6 (by decide +kernel) (by decide +kernel), by decide +kernel, by decide +kernel⟩
theorem yw92 : YW 92 := ⟨by decide +kernel, ya92, yi9, yk92⟩
theorem ya93 : mW 93 ∈ XU := gm4 104 (by decide +kernel) (by decide +kernel)
theorem yk93 : yw_k 93 := ⟨gm4 102 (by decide +kernel) (by decide +kernel), gm4 103 (by decide +kernel) (by decide +kernel), by decide +kernel, by decide +kernel⟩
theorem yw93 : YW 93 := ⟨by decide +kernel, ya93, yi9, yk93⟩
theorem ya94 : mW 94 ∈ XU := gm1 221 (by decide +kernel) (by decide +kernel)
theorem yk94 : yw_k 94 := ⟨gm1 219 (by decide +kernel) (by decide +kernel), gm1 220 (by decide +kernel) (by decide +kernel), by decide +kernel, by decide +kernel⟩
theorem yw94 : YW 94 := ⟨by decide +kernel, ya94, yi9, yk94⟩
theorem ya95 : mW 95 ∈ XU := gm2 188 (by decide +kernel) (by decide +kernel)
theorem yk95 : yw_k 95 := gm2 187 (by decide +kernel) (by decide +kernel)
theorem yw95 : YW 95 := ⟨by decide +kernel, ya95, yi9, yk95⟩
theorem ya96 : mW 96 ∈ XU := gm2 58 (by decide +kernel) (by decide +kernel)
theorem yk96 : yw_k 96 := gm2 57 (by decide +kernel) (by decide +kernel)
theorem yw96 : YW 96 := ⟨by decide +kernel, ya96, yi9, yk96⟩
theorem ya97 : mW 97 ∈ XU := gm4 37 (by decide +kernel) (by decide +kernel)
theorem yk97 : yw_k 97 := gm4 36 (by decide +kernel) (by decide +kernel)
theorem yw97 : YW 97 := ⟨by decide +kernel, ya97, yi9, yk97⟩
theorem ya98 : mW 98 ∈ XU := gm4 16 (by decide +kernel) (by decide +kernel)
theorem yk98 : yw_k 98 := gm4 15 (by decide +kernel) (by decide +kernel)
theorem yw98 : YW 98 := ⟨by decide +kernel, ya98, yi9, yk98⟩
theorem ya99 : mW 99 ∈ XU := gm3 148 (by decide +kernel) (by decide +kernel)
theorem yk99 : yw_k 99 := gm3 147 (by decide +kernel) (by decide +kernel)
theorem yw99 : YW 99 := ⟨by decide +kernel, ya99, yi9, yk99⟩
theorem ya100 : mW 100 ∈ XU := gm4 34 (by decide +kernel) (by decide +kernel)
theorem yk100 : yw_k 100 := gm4 33 (by decide +kernel) (by decide +kernel)
theorem yw100 : YW 100 := ⟨by decide +kernel, ya100, yi9, yk100⟩
theorem ya101 : mW 101 ∈ XU := gm4 31 (by decide +kernel) (by decide +kernel)
theorem yk101 : yw_k 101 := gm4 30 (by decide +kernel) (by decide +kernel)
theorem yw101 : YW 101 := ⟨by decide +kernel, ya101, yi9, yk101⟩
theorem ya102 : mW 102 ∈ XU := gm4 81 (by decide +kernel) (by decide +kernel)
theorem yk102 : yw_k 102 := gm4 80 (by decide +kernel) (by decide +kernel)
theorem yw102 : YW 102 := ⟨by decide +kernel, ya102, yi9, yk102⟩
theorem ya103 : mW 103 ∈ XU := gm2 136 (by decide +kernel) (by decide +kernel)
theorem yk103 : yw_k 103 := ⟨gm2 135 (by decide +kernel) (by decide +kernel), xu_s 7 (by decide +kernel) (by decide +kernel), by decide +kernel, by decide +kernel⟩
theorem yw103 : YW 103 := ⟨by decide +kernel, ya103, yi9, yk103⟩
theorem ya104 : mW 104 ∈ XU := gm2 161 (by decide +kernel) (by decide +kernel)
theorem yk104 : yw_k 104 := ⟨gm2 160 (by decide +kernel) (by decide +kernel), xu_s 8 (by decide +kernel) (by decide +kernel), by decide +kernel, by decide +kernel⟩
theorem yw104 : YW 104 := ⟨by decide +kernel, ya104, yi9, yk104⟩
theorem ya105 : mW 105 ∈ XU := gm2 171 (by decide +kernel) (by decide +kernel)
theorem yk105 : yw_k 105 := ⟨gm2 170 (by decide +kernel) (by decide +kernel), xu_s 9 (by decide +kernel) (by decide +kernel), by decide +kernel, by decide +kernel⟩
theorem yw105 : YW 105 := ⟨by decide +kernel, ya105, yi9, yk105⟩
theorem ya106 : mW 106 ∈ XU := gm2 74 (by decide +kernel) (by decide +kernel)
theorem yk106 : yw_k 106 := gm2 73 (by decide +kernel) (by decide +kernel)
theorem yw106 : YW 106 := ⟨by decide +kernel, ya106, yi10, yk106⟩
theorem ya107 : mW 107 ∈ XU := gm2 61 (by decide +kernel) (by decide +kernel)
theorem yk107 : yw_k 107 := gm2 60 (by decide +kernel) (by decide +kernel)
theorem yw107 : YW 107 := ⟨by decide +kernel, ya107, yi11, yk107⟩
theorem ya108 : mW 108 ∈ XU := gm4 117 (by decide +kernel) (by decide +kernel)
theorem yk108 : yw_k 108 := gm4 116 (by decide +kernel) (by decide +kernel)
theorem yw108 : YW 108 := ⟨by decide +kernel, ya108, yi12, yk108⟩
theorem ya109 : mW 109 ∈ XU := gm2 179 (by decide +kernel) (by decide +kernel)
theorem yk109 : yw_k 109 := gm2 178 (by decide +kernel) (by decide +kernel)
theorem yw109 : YW 109 := ⟨by decide +kernel, ya109, yi12, yk109⟩
theorem ya110 : mW 110 ∈ XU := gm3 77 (by decide +kernel) (by decide +kernel)
theorem yk110 : yw_k 110 := gm3 76 (by decide +kernel) (by decide +kernel)
theorem yw110 : YW 110 := ⟨by decide +kernel, ya110, yi12, yk110⟩
theorem ya111 : mW 111 ∈ XU := gm3 126 (by decide +kernel) (by decide +kernel)
theorem yk111 : yw_k 111 := gm3 125 (by decide +kernel) (by decide +kernel)
theorem yw111 : YW 111 := ⟨by decide +kernel, ya111, yi12, yk111⟩
theorem ya112 : mW 112 ∈ XU := gm3 141 (by decide +kernel) (by decide +kernel)
theorem yk112 : yw_k 112 := gm3 140 (by decide +kernel) (by decide +kernel)
theorem yw112 : YW 112 := ⟨by decide +kernel, ya112, yi12, yk112⟩
theorem ya113 : mW 113 ∈ XU := gm3 153 (by decide +kernel) (by decide +kernel)
theorem yk113 : yw_k 113 := gm3 152 (by decide +kernel) (by decide +kernel)
theorem yw113 : YW 113 := ⟨by decide +kernel, ya113, yi12, yk113⟩
theorem ya114 : mW 114 ∈ XU := gm3 165 (by decide +kernel) (by decide +kernel)
theorem yk114 : yw_k 114 := gm3 164 (by decide +kernel) (by decide +kernel)
theorem yw114 : YW 114 := ⟨by decide +kernel, ya114, yi12, yk114⟩
theorem ya115 : mW 115 ∈ XU := gm3 195 (by decide +kernel) (by decide +kernel)
theorem yk115 : yw_k 115 := gm3 194 (by decide +kernel) (by decide +kernel)
theorem yw115 : YW 115 := ⟨by decide +kernel, ya115, yi12, yk115⟩
theorem ya116 : mW 116 ∈ XU := gm3 205 (by decide +kernel) (by decide +kernel)
theorem yk116 : yw_k 116 := gm3 204 (by decide +kernel) (by decide +kernel)
theorem yw116 : YW 116 := ⟨by decide +kernel, ya116, yi12, yk116⟩
theorem ya117 : mW 117 ∈ XU := gm3 213 (by decide +kernel) (by decide +kernel)
theorem yk117 : yw_k 117 := gm3 212 (by decide +kernel) (by decide +kernel)
theorem yw117 : YW 117 := ⟨by decide +kernel, ya117, yi12, yk117⟩
theorem ya118 : mW 118 ∈ XU := gm3 225 (by decide +kernel) (by decide +kernel)
theorem yk118 : yw_k 118 := gm3 224 (by decide +kernel) (by decide +kernel)
theorem yw118 : YW 118 := ⟨by decide +kernel, ya118, yi12, yk118⟩
theorem ya119 : mW 119 ∈ XU := gm3 237 (by decide +kernel) (by decide +kernel)
theorem yk119 : yw_k 119 := gm3 236 (by decide +kernel) (by decide +kernel)
theorem yw119 : YW 119 := ⟨by decide +kernel, ya119, yi12, yk119⟩
theorem ya120 : mW 120 ∈ XU := gm4 9 (by decide +kernel) (by decide +kernel)
theorem yk120 : yw_k 120 := gm4 8 (by decide +kernel) (by decide +kernel)
theorem yw120 : YW 120 := ⟨by decide +kernel, ya120, yi12, yk120⟩
theorem ya121 : mW 121 ∈ XU := gm4 24 (by decide +kernel) (by decide +kernel)
theorem yk121 : yw_k 121 := gm4 23 (by decide +kernel) (by decide +kernel)
theorem yw121 : YW 121 := ⟨by decide +kernel, ya121, yi12, yk121⟩
theorem ya122 : mW 122 ∈ XU := gm4 47 (by decide +kernel) (by decide +kernel)
theorem yk122 : yw_k 122 := gm4 46 (by decide +kernel) (by decide +kernel)
theorem yw122 : YW 122 := ⟨by decide +kernel, ya122, yi12, yk122⟩
theorem ya123 : mW 123 ∈ XU := gm4 55 (by decide +kernel) (by decide +kernel)
theorem yk123 : yw_k 123 := gm4 54 (by decide +kernel) (by decide +kernel)
theorem yw123 : YW 123 := ⟨by decide +kernel, ya123, yi12, yk123⟩
theorem ya124 : mW 124 ∈ XU := gm4 73 (by decide +kernel) (by decide +kernel)
theorem yk124 : yw_k 124 := gm4 72 (by decide +kernel) (by decide +kernel)
theorem yw124 : YW 124 := ⟨by decide +kernel, ya124, yi12, yk124⟩
theorem ya125 : mW 125 ∈ XU := gm4 206 (by decide +kernel) (by decide +kernel)
theorem yk125 : yw_k 125 := gm4 205 (by decide +kernel) (by decide +kernel)
theorem yw125 : YW 125 := ⟨by decide +kernel, ya125, yi12, yk125⟩
theorem ya126 : mW 126 ∈ XU := gm4 235 (by decide +kernel) (by decide +kernel)
theorem yk126 : yw_k 126 := gm4 234 (by decide +kernel) (by decide +kernel)
theorem yw126 : YW 126 := ⟨by decide +kernel, ya126, yi12, yk126⟩
theorem ya127 : mW 127 ∈ XU := gm5 3 (by decide +kernel) (by decide +kernel)
theorem yk127 : yw_k 127 := gm5 2 (by decide +kernel) (by decide +kernel)
theorem yw127 : YW 127 := ⟨by decide +kernel, ya127, yi12, yk127⟩
theorem ya128 : mW 128 ∈ XU := gm4 100 (by decide +kernel) (by decide +kernel)
theorem yk128 : yw_k 128 := gm4 99 (by decide +kernel) (by decide +kernel)
theorem yw128 : YW 128 := ⟨by decide +kernel, ya128, yi12, yk128⟩
theorem ya129 : mW 129 ∈ XU := gm4 114 (by decide +kernel) (by decide +kernel)
theorem yk129 : yw_k 129 := gm4 113 (by decide +kernel) (by decide +kernel)
theorem yw129 : YW 129 := ⟨by decide +kernel, ya129, yi12, yk129⟩
theorem ya130 : mW 130 ∈ XU := gm4 108 (by decide +kernel) (by decide +kernel)
theorem yk130 : yw_k 130 := gm4 107 (by decide +kernel) (by decide +kernel)
theorem yw130 : YW 130 := ⟨by decide +kernel, ya130, yi12, yk130⟩
theorem ya131 : mW 131 ∈ XU := gm4 129 (by decide +kernel) (by decide +kernel)
theorem yk131 : yw_k 131 := gm4 128 (by decide +kernel) (by decide +kernel)
theorem yw131 : YW 131 := ⟨by decide +kernel, ya131, yi12, yk131⟩
theorem ya132 : mW 132 ∈ XU := gm4 148 (by decide +kernel) (by decide +kernel)
theorem yk132 : yw_k 132 := gm4 147 (by decide +kernel) (by decide +kernel)
theorem yw132 : YW 132 := ⟨by decide +kernel, ya132, yi12, yk132⟩
theorem ya133 : mW 133 ∈ XU := gm4 145 (by decide +kernel) (by decide +kernel)
theorem yk133 : yw_k 133 := gm4 144 (by decide +kernel) (by decide +kernel)
theorem yw133 : YW 133 := ⟨by decide +kernel, ya133, yi12, yk133⟩
theorem ya134 : mW 134 ∈ XU := gm4 126 (by decide +kernel) (by decide +kernel)
theorem yk134 : yw_k 134 := gm4 125 (by decide +kernel) (by decide +kernel)
theorem yw134 : YW 134 := ⟨by decide +kernel, ya134, yi12, yk134⟩
theorem ya135 : mW 135 ∈ XU := gm4 132 (by decide +kernel) (by decide +kernel)
theorem yk135 : yw_k 135 := gm4 131 (by decide +kernel) (by decide +kernel)
theorem yw135 : YW 135 := ⟨by decide +kernel, ya135, yi12, yk135⟩
theorem ya136 : mW 136 ∈ XU := gm4 123 (by decide +kernel) (by decide +kernel)
theorem yk136 : yw_k 136 := gm4 122 (by decide +kernel) (by decide +kernel)
theorem yw136 : YW 136 := ⟨by decide +kernel, ya136, yi12, yk136⟩
theorem ya137 : mW 137 ∈ XU := gm4 163 (by decide +kernel) (by decide +kernel)
theorem yk137 : yw_k 137 := gm4 162 (by decide +kernel) (by decide +kernel)
theorem yw137 : YW 137 := ⟨by decide +kernel, ya137, yi12, yk137⟩
theorem ya138 : mW 138 ∈ XU := gm4 173 (by decide +kernel) (by decide +kernel)
theorem yk138 : yw_k 138 := gm4 172 (by decide +kernel) (by decide +kernel)
theorem yw138 : YW 138 := ⟨by decide +kernel, ya138, yi12, yk138⟩
theorem ya139 : mW 139 ∈ XU := gm4 170 rfl (by decide +kernel)
theorem yk139 : yw_k 139 := gm4 169 (by decide +kernel) (by decide +kernel)
theorem yw139 : YW 139 := ⟨by decide +kernel, ya139, yi12, yk139⟩
theorem ya140 : mW 140 ∈ XU := gm4 167 (by decide +kernel) (by decide +kernel)
theorem yk140 : yw_k 140 := gm4 166 (by decide +kernel) (by decide +kernel)
theorem yw140 : YW 140 := ⟨by decide +kernel, ya140, yi12, yk140⟩
theorem ya141 : mW 141 ∈ XU := gm4 180 (by decide +kernel) (by decide +kernel)
theorem yk141 : yw_k 141 := gm4 179 (by decide +kernel) (by decide +kernel)
theorem yw141 : YW 141 := ⟨by decide +kernel, ya141, yi12, yk141⟩
theorem ya142 : mW 142 ∈ XU := gm4 177 (by decide +kernel) (by decide +kernel)
theorem yk142 : yw_k 142 := gm4 176 (by decide +kernel) (by decide +kernel)
theorem yw142 : YW 142 := ⟨by decide +kernel, ya142, yi12, yk142⟩
theorem ya143 : mW 143 ∈ XU := gm4 186 (by decide +kernel) (by decide +kernel)
theorem yk143 : yw_k 143 := gm4 185 (by decide +kernel) (by decide +kernel)
theorem yw143 : YW 143 := ⟨by decide +kernel, ya143, yi12, yk143⟩
theorem ya144 : mW 144 ∈ XU := gm4 203 (by decide +kernel) (by decide +kernel)
theorem yk144 : yw_k 144 := gm4 202 (by decide +kernel) (by decide +kernel)
theorem yw144 : YW 144 := ⟨by decide +kernel, ya144, yi12, yk144⟩
theorem ya145 : mW 145 ∈ XU := gm4 160 rfl (by decide +kernel)
theorem yk145 : yw_k 145 := gm4 159 (by decide +kernel) (by decide +kernel)
theorem yw145 : YW 145 := ⟨by decide +kernel, ya145, yi12, yk145⟩
theorem ya146 : mW 146 ∈ XU := gm4 111 rfl (by decide +kernel)
theorem yk146 : yw_k 146 := gm4 110 (by decide +kernel) (by decide +kernel)
theorem yw146 : YW 146 := ⟨by decide +kernel, ya146, yi12, yk146⟩
theorem ya147 : mW 147 ∈ XU := gm4 138 (by decide +kernel) (by decide +kernel)
theorem yk147 : yw_k 147 := gm4 137 (by decide +kernel) (by decide +kernel)
theorem yw147 : YW 147 := ⟨by decide +kernel, ya147, yi12, yk147⟩
theorem ya148 : mW 148 ∈ XU := gm4 151 (by decide +kernel) (by decide +kernel)
theorem yk148 : yw_k 148 := gm4 150 (by decide +kernel) (by decide +kernel)
theorem yw148 : YW 148 := ⟨by decide +kernel, ya148, yi12, yk148⟩
theorem ya149 : mW 149 ∈ XU := gm4 154 (by decide +kernel) (by decide +kernel)
theorem yk149 : yw_k 149 := gm4 153 (by decide +kernel) (by decide +kernel)
theorem yw149 : YW 149 := ⟨by decide +kernel, ya149, yi12, yk149⟩
theorem ya150 : mW 150 ∈ XU := gm4 157 (by decide +kernel) (by decide +kernel)
theorem yk150 : yw_k 150 := gm4 156 (by decide +kernel) (by decide +kernel)
theorem yw150 : YW 150 := ⟨by decide +kernel, ya150, yi12, yk150⟩
end
section
/-! all methods: their words -/
set_option maxRecDepth 100000 in
theorem yw_c0 : ∀ i ∈ List.range' 0 39, YW i := by
  rw [show List.range' 0 39 = [0, 1, 2, 3, 4, 5, 6, 7, 8, 9, 10, 11, 12, 13, 14, 15, 16, 17, 18, 19, 20, 21, 22, 23, 24, 25, 26, 27, 28, 29, 30, 31, 32, 33, 34, 35, 36, 37, 38] from by decide +kernel]
  exact List.forall_mem_cons.mpr ⟨yw0, List.forall_mem_cons.mpr ⟨yw1, List.forall_mem_cons.mpr ⟨yw2, List.forall_mem_cons.mpr ⟨yw3, List.forall_mem_cons.mpr ⟨yw4, List.forall_mem_cons.mpr ⟨yw5, List.forall_mem_cons.mpr ⟨yw6, List.forall_mem_cons.mpr ⟨yw7, List.forall_mem_cons.mpr ⟨yw8, List.forall_mem_cons.mpr ⟨yw9, List.forall_mem_cons.mpr ⟨yw10, List.forall_mem_cons.mpr ⟨yw11, List.forall_mem_cons.mpr ⟨yw12, List.forall_mem_cons.mpr ⟨yw13, List.forall_mem_cons.mpr ⟨yw14, List.forall_mem_cons.mpr ⟨yw15, List.forall_mem_cons.mpr ⟨yw16, List.forall_mem_cons.mpr ⟨yw17, List.forall_mem_cons.mpr ⟨yw18, List.forall_mem_cons.mpr ⟨yw19, List.forall_mem_cons.mpr ⟨yw20, List.forall_mem_cons.mpr ⟨yw21, List.forall_mem_cons.mpr ⟨yw22, List.forall_mem_cons.mpr ⟨yw23, List.forall_mem_cons.mpr ⟨yw24, List.forall_mem_cons.mpr ⟨yw25, List.forall_mem_cons.mpr ⟨yw26, List.forall_mem_cons.mpr ⟨yw27, List.forall_mem_cons.mpr ⟨yw28, List.forall_mem_cons.mpr ⟨yw29, List.forall_mem_cons.mpr ⟨yw30, List.forall_mem_cons.mpr ⟨yw31, List.forall_mem_cons.mpr ⟨yw32, List.forall_mem_cons.mpr ⟨yw33, List.forall_mem_cons.mpr ⟨yw34, List.forall_mem_cons.mpr ⟨yw35, List.forall_mem_cons.mpr ⟨yw36, List.forall_mem_cons.mpr ⟨yw37, List.forall_mem_cons.mpr ⟨yw38, fun _ h => absurd h List.not_mem_nil⟩⟩⟩⟩⟩⟩⟩⟩⟩⟩⟩⟩⟩⟩⟩⟩⟩⟩⟩⟩⟩⟩⟩⟩⟩⟩⟩⟩⟩⟩⟩⟩⟩⟩⟩⟩⟩⟩⟩
set_option maxRecDepth 100000 in
theorem yw_c39 : ∀ i ∈ List.range' 39 39, YW i := by
  rw [show List.range' 39 39 = [39, 40, 41, 42, 43, 44, 45, 46, 47, 48, 49, 50, 51, 52, 53, 54, 55, 56, 57, 58, 59, 60, 61, 62, 63, 64, 65, 66, 67, 68, 69, 70, 71, 72, 73, 74, 75, 76, 77] from by decide +kernel]
  exact List.forall_mem_cons.mpr ⟨yw39, List.forall_mem_cons.mpr ⟨yw40, List.forall_mem_cons.mpr ⟨yw41, List.forall_mem_cons.mpr ⟨yw42, List.forall_mem_cons.mpr ⟨yw43, List.forall_mem_cons.mpr ⟨yw44, List.forall_mem_cons.mpr ⟨yw45, List.forall_mem_cons.mpr ⟨yw46, List.forall_mem_cons.mpr ⟨yw47, List.forall_mem_cons.mpr ⟨yw48, List.forall_mem_cons.mpr ⟨yw49, List.forall_mem_cons.mpr ⟨yw50, List.forall_mem_cons.mpr ⟨yw51, List.forall_mem_cons.mpr ⟨yw52, List.forall_mem_cons.mpr ⟨yw53, List.forall_mem_cons.mpr ⟨yw54, List.forall_mem_cons.mpr ⟨yw55, List.forall_mem_cons.mpr ⟨yw56, List.forall_mem_cons.mpr ⟨yw57, List.forall_mem_cons.mpr ⟨yw58, List.forall_mem_cons.mpr ⟨yw59, List.forall_mem_cons.mpr ⟨yw60, List.forall_mem_cons.mpr ⟨yw61, List.forall_mem_cons.mpr ⟨yw62, List.forall_mem_cons.mpr ⟨yw63, List.forall_mem_cons.mpr ⟨yw64, List.forall_mem_cons.mpr ⟨yw65, List.forall_mem_cons.mpr ⟨yw66, List.forall_mem_cons.mpr ⟨yw67, List.forall_mem_cons.mpr ⟨yw68, List.forall_mem_cons.mpr ⟨yw69, List.forall_mem_cons.mpr ⟨yw70, List.forall_mem_cons.mpr ⟨yw71, List.forall_mem_cons.mpr ⟨yw72, List.forall_mem_cons.mpr ⟨yw73, List.forall_mem_cons.mpr ⟨yw74, List.forall_mem_cons.mpr ⟨yw75, List.forall_mem_cons.mpr ⟨yw76, List.forall_mem_cons.mpr ⟨yw77, fun _ h => absurd h List.not_mem_nil⟩⟩⟩⟩⟩⟩⟩⟩⟩⟩⟩⟩⟩⟩⟩⟩⟩⟩⟩⟩⟩⟩⟩⟩⟩⟩⟩⟩⟩⟩⟩⟩⟩⟩⟩⟩⟩⟩⟩
set_option maxRecDepth 100000 in
theorem yw_c78 : ∀ i ∈ List.range' 78 39, YW i := by
  rw [show List.range' 78 39 = [78, 79, 80, 81, 82, 83, 84, 85, 86, 87, 88, 89, 90, 91, 92, 93, 94, 95, 96, 97, 98, 99, 100, 101, 102, 103, 104, 105, 106, 107, 108, 109, 110, 111, 112, 113, 114, 115, 116] from by decide +kernel]
  exact List.forall_mem_cons.mpr ⟨yw78, List.forall_mem_cons.mpr ⟨yw79, List.forall_mem_cons.mpr ⟨yw80, List.forall_mem_cons.mpr ⟨yw81, List.forall_mem_cons.mpr ⟨yw82, List.forall_mem_cons.mpr ⟨yw83, List.forall_mem_cons.mpr ⟨yw84, List.forall_mem_cons.mpr ⟨yw85, List.forall_mem_cons.mpr ⟨yw86, List.forall_mem_cons.mpr ⟨yw87, List.forall_mem_cons.mpr ⟨yw88, List.forall_mem_cons.mpr ⟨yw89, List.forall_mem_cons.mpr ⟨yw90, List.forall_mem_cons.mpr ⟨yw91, List.forall_mem_cons.mpr ⟨yw92, List.forall_mem_cons.mpr ⟨yw93, List.forall_mem_cons.mpr ⟨yw94, List.forall_mem_cons.mpr ⟨yw95, List.forall_mem_cons.mpr ⟨yw96, List.forall_mem_cons.mpr ⟨yw97, List.forall_mem_cons.mpr ⟨yw98, List.forall_mem_cons.mpr ⟨yw99, List.forall_mem_cons.mpr ⟨yw100, List.forall_mem_cons.mpr ⟨yw101, List.forall_mem_cons.mpr ⟨yw102, List.forall_mem_cons.mpr ⟨yw103, List.forall_mem_cons.mpr ⟨yw104, List.forall_mem_cons.mpr ⟨yw105, List.forall_mem_cons.mpr ⟨yw106, List.forall_mem_cons.mpr ⟨yw107, List.forall_mem_cons.mpr ⟨yw108, List.forall_mem_cons.mpr ⟨yw109, List.forall_mem_cons.mpr ⟨yw110, List.forall_mem_cons.mpr ⟨yw111, List.forall_mem_cons.mpr ⟨yw112, List.forall_mem_cons.mpr ⟨yw113, List.forall_mem_cons.mpr ⟨yw114, List.forall_mem_cons.mpr ⟨yw115, List.forall_mem_cons.mpr ⟨yw116, fun _ h => absurd h List.not_mem_nil⟩⟩⟩⟩⟩⟩⟩⟩⟩⟩⟩⟩⟩⟩⟩⟩⟩⟩⟩⟩⟩⟩⟩⟩⟩⟩⟩⟩⟩⟩⟩⟩⟩⟩⟩⟩⟩⟩⟩
set_option maxRecDepth 100000 in
theorem yw_c117 : ∀ i ∈ List.range' 117 34, YW i := by
  rw [show List.range' 117 34 = [117, 118, 119, 120, 121, 122, 123, 124, 125, 126, 127, 128, 129, 130, 131, 132, 133, 134, 135, 136, 137, 138, 139, 140, 141, 142, 143, 144, 145, 146, 147, 148, 149, 150] from by decide +kernel]
  exact List.forall_mem_cons.mpr ⟨yw117, List.forall_mem_cons.mpr ⟨yw118, List.forall_mem_cons.mpr ⟨yw119, List.forall_mem_cons.mpr ⟨yw120, List.forall_mem_cons.mpr ⟨yw121, List.forall_mem_cons.mpr ⟨yw122, List.forall_mem_cons.mpr ⟨yw123, List.forall_mem_cons.mpr ⟨yw124, List.forall_mem_cons.mpr ⟨yw125, List.forall_mem_cons.mpr ⟨yw126, List.forall_mem_cons.mpr ⟨yw127, List.forall_mem_cons.mpr ⟨yw128, List.forall_mem_cons.mpr ⟨yw129, List.forall_mem_cons.mpr ⟨yw130, List.forall_mem_cons.mpr ⟨yw131, List.forall_mem_cons.mpr ⟨yw132, List.forall_mem_cons.mpr ⟨yw133, List.forall_mem_cons.mpr ⟨yw134, List.forall_mem_cons.mpr ⟨yw135, List.forall_mem_cons.mpr ⟨yw136, List.forall_mem_cons.mpr ⟨yw137, List.forall_mem_cons.mpr ⟨yw138, List.forall_mem_cons.mpr ⟨yw139, List.forall_mem_cons.mpr ⟨yw140, List.forall_mem_cons.mpr ⟨yw141, List.forall_mem_cons.mpr ⟨yw142, List.forall_mem_cons.mpr ⟨yw143, List.forall_mem_cons.mpr ⟨yw144, List.forall_mem_cons.mpr ⟨yw145, List.forall_mem_cons.mpr ⟨yw146, List.forall_mem_cons.mpr ⟨yw147, List.forall_mem_cons.mpr ⟨yw148, List.forall_mem_cons.mpr ⟨yw149, List.forall_mem_cons.mpr ⟨yw150, fun _ h => absurd h List.not_mem_nil⟩⟩⟩⟩⟩⟩⟩⟩⟩⟩⟩⟩⟩⟩⟩⟩⟩⟩⟩⟩⟩⟩⟩⟩⟩⟩⟩⟩⟩⟩⟩⟩⟩⟩
theorem yw (i : Nat) (h : i < 151) : YW i := by
  by_cases h0 : i < 39
  · exact yw_c0 i (List.mem_range'_1.mpr ⟨by omega, by omega⟩)
  by_cases h39 : i < 78
  · exact yw_c39 i (List.mem_range'_1.mpr ⟨by omega, by omega⟩)
  by_cases h78 : i < 117
  · exact yw_c78 i (List.mem_range'_1.mpr ⟨by omega, by omega⟩)
  by_cases h117 : i < 151
  · exact yw_c117 i (List.mem_range'_1.mpr ⟨by omega, by omega⟩)
  exact absurd h (by omega)
end
section
/-! A machine of our own: the heap is a list of cells at handles (their places), handles from 1000 on are static arrays and the script.
AW says: from this place of method mi the real machine comes to an end that Q allows. Its rules (part 07) are proved once, over the kit's rows; the methods are then walked with these rules alone. -/
abbrev AC : Type := (Nat × List Value) ⊕ (Nat × vp_A)
abbrev AH : Type := List AC
abbrev AO : Type := Option Value ⊕ Nat
/-- the script (its length, its ints); how many handles a method found -/
abbrev XS : Type := (Nat × (Nat → Int32)) × Nat
def tv (ad : Nat → Nat) (v : Value) : Value := match v with
  | .ref k => .ref (ad k)
  | v => v
theorem tv_cat (ad : Nat → Nat) (v : Value) : (tv ad v).category = v.category := by cases v <;> rfl
def cE (dA : Nat → ClassId) (ad : Nat → Nat) (c : AC) : va_E := match c with
  | .inl o => .inr (o.1, o.2.map (tv ad))
  | .inr a => .inl (dA a.1, a.2)
def cW (dA : Nat → ClassId) (ad : Nat → Nat) (h : AH) : va_W := h.mapIdx (fun k c => (ad k, cE dA ad c))
theorem cW_get {dA : Nat → ClassId} {ad : Nat → Nat} {h : AH} {k : Nat} {c : AC} (hk : h[k]? = some c) : (cW dA ad h)[k]? = some (ad k, cE dA ad c) := by
  simp [cW, List.getElem?_mapIdx, hk]
theorem cW_inv {dA : Nat → ClassId} {ad : Nat → Nat} {h : AH} {k : Nat} {q : Nat × va_E} (hk : (cW dA ad h)[k]? = some q) : ∃ c, h[k]? = some c ∧ q = (ad k, cE dA ad c) := by
  simp only [cW, List.getElem?_mapIdx] at hk
  cases hc : h[k]? with
  | none => rw [hc] at hk; cases hk
  | some c => rw [hc] at hk; cases hk; exact ⟨c, rfl, rfl⟩
theorem cW_set {dA : Nat → ClassId} {ad : Nat → Nat} {h : AH} {k : Nat} {c : AC} : (cW dA ad h).set k (ad k, cE dA ad c) = cW dA ad (h.set k c) := by
  apply List.ext_getElem?
  intro i
  simp only [cW, List.getElem?_set, List.getElem?_mapIdx, List.length_mapIdx]
  by_cases hi : k = i
  · subst hi
    by_cases hl : k < h.length
    · simp [hl]
    · simp [hl]
  · simp [hi]
def tyl (dA : Nat → ClassId) : List (ClassId × FieldType) := [(dA 0, .int), (dA 1, .long), (dA 2, .char)]
def ro_m (k : Nat) : Int32 := match k with | 0 => 98 | 1 => 108 | _ => 112
def ro_w (k : Nat) : Int32 := match k with | 0 => 3 | 1 => 4 | 2 => 2 | 3 => 5 | 4 => 3 | 5 => 2 | 6 => 6 | _ => 1
def ro_c (k : Nat) : Int32 := match k with | 0 => 0 | 1 => 2 | 2 => 6 | 3 => 0 | 4 => 1 | 5 => 2 | 6 => 2 | 7 => 0 | 8 => 1 | 9 => 0 | 10 => 4 | _ => 3
def roT (X : XS) (k : Nat) : FieldType × Nat × (Nat → Int32) := match k with
  | 0 => (.char, 3, ro_m)
  | 1 => (.int, 8, ro_w)
  | 2 => (.int, 12, ro_c)
  | _ => (.int, X.1.1, X.1.2)
/-- words that aren't good for a callee's list, and are kept all the same -/
def isNG (w : Cond) : Bool := match w with
  | .castable .. => true
  | .declares _ => true
  | .fieldLinkNest .. => true
  | .methodLinkNest .. => true
  | _ => false
def NGL : List Cond := tables_1.filter isNG
def NCL : List (String × String) := [("java/lang/IllegalStateException", "java/lang/IllegalArgumentException"), ("java/lang/IllegalArgumentException", "java/lang/IndexOutOfBoundsException"), ("java/lang/ArithmeticException", "java/lang/IndexOutOfBoundsException"), ("java/lang/IllegalStateException", "java/lang/IndexOutOfBoundsException"), ("java/util/NoSuchElementException", "java/lang/UnsupportedOperationException"), ("java/lang/IndexOutOfBoundsException", "java/util/NoSuchElementException")]
/-- the static row of weights, as it is cloned -/
def WT (β : Nat) (ad : Nat → Nat) (U : State) (H : Heap) : Prop := ∃ cell : Cell, H[ad 1001]? = some cell ∧ cell.slots.size = 8 ∧ U.vm.findClass "[I" = some cell.cls ∧ ¬ β ≤ ad 1001
/-- what stands still in the whole run: the classes, the static arrays and the script, the texts -/
def SW (X : XS) (β : Nat) (D : va_G) (dA : Nat → ClassId) (ad sa : Nat → Nat) (U : State) (H : Heap) : Prop :=
  va_K D kcl (tyl dA) U ∧
  (∀ k, k < 4 → va_T (roT X k).1 (ad (1000 + k)) (roT X k).2.1 (fun j => .int ((roT X k).2.2 j)) (fun q : Nat => β ≤ q) U H) ∧
  (∀ (k : Nat) (q : String × String × String), saN[k]? = some q → va_Z q.1 q.2.1 q.2.2 (.ref (ad (1000 + k))) (fun q : Nat => β ≤ q) U H) ∧
  (∀ (k : Nat) (q : String × Nat × String), stN[k]? = some q → vk_R q.1 q.2.1 q.2.2 (sa k) U) ∧
  vx_Zq Bundle.tN "UNASSIGNED_STACK" Bundle.steD (fun q : Nat => β ≤ q) U H ∧ vx_Zq Bundle.tN "SUPPRESSED_SENTINEL" Bundle.listD (fun q : Nat => β ≤ q) U H ∧
  (∀ w ∈ NGL, va_Nw w U) ∧ (∀ q ∈ NCL, va_Nc q.1 q.2 U) ∧ WT β ad U H
theorem ng_warm {w : Cond} {s U : State} (hw : w ∈ NGL) (hW : s.WarmedH U.vm) (h : va_Nw w s) : va_Nw w U := by
  have hg := (List.mem_filter.mp hw).2
  cases w <;> first
    | exact va_Nw.warmC hW h
    | exact va_Nw.warmD hW h
    | exact va_Nw.warmF hW h
    | exact va_Nw.warmM hW h
    | (simp [isNG] at hg)
theorem SW.warm {X : XS} {β : Nat} {D : va_G} {dA : Nat → ClassId} {ad sa : Nat → Nat} {u U : State} {H H1 : Heap} (h : SW X β D dA ad sa u H) (hW : u.WarmedH U.vm) (hk : ∀ a : Nat, a < H.size → ¬ (β ≤ a) → H1[a]? = H[a]?) : SW X β D dA ad sa U H1 := by
  obtain ⟨h1, h2, h3, h4, h5, h6, h7, h8, cell, w1, w2, w3, w4⟩ := h
  exact ⟨va_K.moved hW.alike h1, fun k hlt => va_T.moved hW.alike ((h2 k hlt).kept hk), fun k q hq => va_Z.moved hW.alike ((h3 k q hq).kept hk), fun k q hq => (h4 k q hq).warm hW,
    vx_Zq.moved hW.alike (h5.kept hk), vx_Zq.moved hW.alike (h6.kept hk), fun w hw => ng_warm hw hW (h7 w hw), fun q hq => va_Nc.moved hW.alike (h8 q hq), cell, (hk _ (Array.getElem?_eq_some_iff.mp w1).1 w4).trans w1, w2, by rw [hW.alike.findClass]; exact w3, w4⟩
theorem SW.ad {X : XS} {β : Nat} {D : va_G} {dA : Nat → ClassId} {ad ad' sa : Nat → Nat} {u : State} {H : Heap} (h : SW X β D dA ad sa u H) (e : ∀ k, 1000 ≤ k → ad' k = ad k) : SW X β D dA ad' sa u H := by
  obtain ⟨h1, h2, h3, h4, h5, h6, h7, h8, h9⟩ := h
  exact ⟨h1, fun k hlt => by rw [e (1000 + k) (by omega)]; exact h2 k hlt, fun k q hq => by rw [e (1000 + k) (by omega)]; exact h3 k q hq, h4, h5, h6, h7, h8, by unfold WT; rw [e 1001 (by omega)]; exact h9⟩
/-- how the handles' addresses may have changed since the method's start -/
def adOk (mi n0 : Nat) (ad0 ad : Nat → Nat) : Prop := (mA mi = 0 → ad = ad0) ∧ ∀ k, (k < n0 ∨ 1000 ≤ k) → ad k = ad0 k
theorem adOk.rf (mi n0 : Nat) (ad : Nat → Nat) : adOk mi n0 ad ad := ⟨fun _ => rfl, fun _ _ => rfl⟩
/-- an int that the method's own type leaves as it is -/
def nr (mi : Nat) (x : Int32) : Prop := ∃ ty, mR mi = some ty ∧ narrow ty (.int x) = .int x
def retI (mi : Nat) (ins : Instr) (v : Option Value) : Prop := match ins with
  | .return_ => v = none ∧ mR mi = none
  | .ireturn => ∃ x, v = some (.int x) ∧ nr mi x
  | .lreturn => ∃ x, v = some (.long x) ∧ mR mi = some .long
  | .freturn => ∃ x, v = some (.float x) ∧ mR mi = some .float
  | .dreturn => ∃ x, v = some (.double x) ∧ mR mi = some .double
  | .areturn => ∃ x, v = some (.ref x) ∧ ∃ rt, mR mi = some rt ∧ ((∃ n, rt = .object n) ∨ ∃ t, rt = .array t)
  | _ => False
/-- the parts of a throw: new; dup; ldc; invokespecial; athrow -/
def thI (mi pc en si : Nat) : Prop := ∃ (ik is : Nat) (tx : String), en < 6 ∧ stN[si]? = some ((mY mi).cls, is, tx) ∧ (mY mi).cls = "Plotwise" ∧ mH mi = [] ∧ 6 ≤ mV mi ∧ (ik, 5, 100 + en, 0) ∈ lks (mD mi) ∧ dN (mD mi) = (mY mi).cls ∧
  decode (mB mi) pc = .ok (.new ik, 3) ∧ decode (mB mi) (pc + 3) = .ok (.dup, 1) ∧
  ((decode (mB mi) (pc + 4) = .ok (.ldc is, 2) ∧ decode (mB mi) (pc + 6) = .ok (.invokespecial (exI.getD en 0), 3) ∧ decode (mB mi) (pc + 9) = .ok (.athrow, 1)) ∨
   (decode (mB mi) (pc + 4) = .ok (.ldc_w is, 3) ∧ decode (mB mi) (pc + 7) = .ok (.invokespecial (exI.getD en 0), 3) ∧ decode (mB mi) (pc + 10) = .ok (.athrow, 1)))
/-- the heap as the real one holds it -/
def HR (D : va_G) (dA : Nat → ClassId) (β : Nat) (ad : Nat → Nat) (h : AH) (H0 H : Heap) (locs : List Loc) : Prop :=
  va_P D kcl (cW dA ad h) H ∧ va_D (fun q : Nat => β ≤ q) (cW dA ad h) ∧ va_S (fun q : Nat => β ≤ q) H0 H locs
/-- the ends that a method's body owes: it returns; a callee's throw goes through; it throws -/
def Fin1 (mi : Nat) (Q : AO → AH → Prop) (n0 : Nat) (p : Program) (l : Launch) (e : Env) (R : Room) (s : State) (m : MethodId) (args : Array Value) (below : List Frame) (meth : Method) (c : Code) (β : Nat) (D : va_G) (dA : Nat → ClassId) (ad0 : Nat → Nat) (Qf : State → Prop) : Prop :=
  ∀ (v : Option Value) (h : AH) (ad : Nat → Nat) (H : Heap) (locs : List Loc) (cells slots pc : Nat) (ls : Array Slot) (ins : Instr), Q (.inl v) h → retI mi ins v → decode (mB mi) pc = .ok (ins, 1) → adOk mi n0 ad0 ad → n0 ≤ h.length → HR D dA β ad h s.heap H locs → cells ≤ R.cells → slots ≤ R.slots →
    W p l e R s m args below meth c H locs cells slots Qf (F0 m pc ls (v.map (tv ad)).toList)
def Fin2 (mi : Nat) (Q : AO → AH → Prop) (n0 : Nat) (p : Program) (l : Launch) (e : Env) (R : Room) (s : State) (m : MethodId) (args : Array Value) (below : List Frame) (meth : Method) (c : Code) (β : Nat) (D : va_G) (dA : Nat → ClassId) (ad0 : Nat → Nat) (Qf : State → Prop) : Prop :=
  ∀ (en : Nat) (h : AH) (ad : Nat → Nat) (H : Heap) (locs : List Loc) (cells slots pc : Nat) (ls : Array Slot) (rest : List Value) (q : Addr) (ce : Cell), Q (.inr en) h → mH mi = [] → adOk mi n0 ad0 ad → n0 ≤ h.length → HR D dA β ad h s.heap H locs → cells ≤ R.cells → slots ≤ R.slots → H[q]? = some ce → ce.vm = .none → s.vm.findClass (exN.getD en "") = some ce.cls →
    vx_W p l e R s m args below meth c H locs cells slots Qf (F0 m pc ls rest) q
def Fin3 (mi : Nat) (Q : AO → AH → Prop) (n0 : Nat) (p : Program) (l : Launch) (e : Env) (R : Room) (s : State) (m : MethodId) (args : Array Value) (below : List Frame) (meth : Method) (c : Code) (β : Nat) (D : va_G) (dA : Nat → ClassId) (ad0 : Nat → Nat) (Qf : State → Prop) : Prop :=
  ∀ (en si : Nat) (h : AH) (ad : Nat → Nat) (H : Heap) (locs : List Loc) (cells slots pc : Nat) (ls : Array Slot) (rest : List Value), Q (.inr en) h → thI mi pc en si → adOk mi n0 ad0 ad → n0 ≤ h.length → HR D dA β ad h s.heap H locs → ls.size = mL mi → (rest.map fun v => v.category).sum ≤ 8 → cells + 1 ≤ R.cells → slots + 6 ≤ R.slots →
    W p l e R s m args below meth c H locs cells slots Qf (F0 m pc ls rest)
/-- all that doesn't change while a method's body runs -/
def Cx (X : XS) (mi : Nat) (Q : AO → AH → Prop) (n0 : Nat) (p : Program) (l : Launch) (e : Env) (R : Room) (s : State) (m : MethodId) (args : Array Value) (below : List Frame) (meth : Method) (c : Code) (β : Nat) (D : va_G) (dA : Nat → ClassId) (ad0 sa : Nat → Nat) (Qf : State → Prop) : Prop :=
  p.tables.exec = Jvm.exec ∧ c.code = mB mi ∧ c.maxLocals = mL mi ∧ s.vm.findClass (mY mi).cls = some m.cls ∧ (∀ w ∈ XU, w.before args s = true) ∧ l.stackTraces = false ∧ SW X β D dA ad0 sa s s.heap ∧ β ≤ s.heap.size ∧
  ((mY mi).name = "<init>" → meth.name = "<init>") ∧ (mV mi ≤ R.frames ∧ 64 * mV mi ≤ R.locals) ∧ c.exceptionTable.toList = tableOf (mH mi) ∧
  Fin1 mi Q n0 p l e R s m args below meth c β D dA ad0 Qf ∧ Fin2 mi Q n0 p l e R s m args below meth c β D dA ad0 Qf ∧ Fin3 mi Q n0 p l e R s m args below meth c β D dA ad0 Qf ∧ n0 = X.2
def tl (ad : Nat → Nat) (lv : List (Nat × Value)) : List (Nat × Value) := lv.map (fun q => (q.1, tv ad q.2))
/-- from pc of method mi, with locals lv, stack st, heap h, room for bc cells and bs slots: an end that Q allows -/
def AW (X : XS) (mi pc : Nat) (lv : List (Nat × Value)) (st : List Value) (h : AH) (bc bs : Nat) (Q : AO → AH → Prop) : Prop :=
  ∀ (n0 : Nat) (p : Program) (l : Launch) (e : Env) (R : Room) (s : State) (m : MethodId) (args : Array Value) (below : List Frame) (meth : Method) (c : Code) (β : Nat) (D : va_G) (dA : Nat → ClassId) (ad0 sa : Nat → Nat) (Qf : State → Prop), Cx X mi Q n0 p l e R s m args below meth c β D dA ad0 sa Qf →
  ∀ (ad : Nat → Nat) (H : Heap) (locs : List Loc) (cells slots : Nat) (ls : Array Slot), adOk mi n0 ad0 ad → n0 ≤ h.length → HR D dA β ad h s.heap H locs → lv_has ls (mL mi) (tl ad lv) → cells + bc ≤ R.cells → slots + bs ≤ R.slots →
    W p l e R s m args below meth c H locs cells slots Qf (F0 m pc ls (st.map (tv ad)))
/-- a method's end, as its caller sees it -/
def CQ (mi : Nat) (n0 : Nat) (β : Nat) (D : va_G) (dA : Nat → ClassId) (ad0 : Nat → Nat) (Q : AO → AH → Prop) : Array Value → State → Outcome → State → Prop := fun _ st o t =>
  (∃ (v : Option Value) (h : AH) (ad : Nat → Nat), o = .returned (v.map (tv ad)) ∧ Q (.inl v) h ∧ adOk mi n0 ad0 ad ∧ n0 ≤ h.length ∧ va_P D kcl (cW dA ad h) t.heap ∧ va_D (fun q : Nat => β ≤ q) (cW dA ad h)) ∧ va_F (fun q : Nat => β ≤ q) st t
def CX (mi : Nat) (n0 : Nat) (β : Nat) (D : va_G) (dA : Nat → ClassId) (ad0 : Nat → Nat) (Q : AO → AH → Prop) : String → State → State → Prop := fun E st t =>
  (∃ (en : Nat) (h : AH) (ad : Nat → Nat), E = exN.getD en "" ∧ Q (.inr en) h ∧ adOk mi n0 ad0 ad ∧ n0 ≤ h.length ∧ va_P D kcl (cW dA ad h) t.heap ∧ va_D (fun q : Nat => β ≤ q) (cW dA ad h)) ∧ va_F (fun q : Nat => β ≤ q) st t
def CP (X : XS) (β : Nat) (D : va_G) (dA : Nat → ClassId) (ad0 sa : Nat → Nat) (h : AH) (U : State) : Prop := SW X β D dA ad0 sa U U.heap ∧ β ≤ U.heap.size ∧ va_P D kcl (cW dA ad0 h) U.heap ∧ va_D (fun q : Nat => β ≤ q) (cW dA ad0 h)
def mRm (mi : Nat) : Room := { frames := mV mi, cells := mC mi, slots := mS mi, locals := 64 * mV mi }
/-- the method mi, called with the values as in the heap h, comes to an end that Q allows -/
def Call (X : XS) (mi : Nat) (as : List Value) (h : AH) (Q : AO → AH → Prop) : Prop :=
  ∀ (l : Launch) (β : Nat) (D : va_G) (dA : Nat → ClassId) (ad0 sa : Nat → Nat), l.stackTraces = false →
    vx_Met l (mY mi) (mW mi :: XU) (mRm mi) (va_Pc (as.map (tv ad0)) (CP X β D dA ad0 sa h)) (CQ mi h.length β D dA ad0 Q) (CX mi h.length β D dA ad0 Q) (mC mi) (mS mi) (fun q : Nat => β ≤ q)
theorem AW.wide {X : XS} {mi pc : Nat} {lv : List (Nat × Value)} {st : List Value} {h : AH} {bc bs bc' bs' : Nat} {Q : AO → AH → Prop} (h1 : bc' ≤ bc) (h2 : bs' ≤ bs) (k : AW X mi pc lv st h bc' bs' Q) : AW X mi pc lv st h bc bs Q :=
  fun n0 p l e R s m args below meth c β D dA ad0 sa Qf C ad H locs cells slots ls ha hn hR hl hc hs => k n0 p l e R s m args below meth c β D dA ad0 sa Qf C ad H locs cells slots ls ha hn hR hl (by omega) (by omega)
/-- fewer known locals -/
theorem AW.less {X : XS} {mi pc : Nat} {lv lv' : List (Nat × Value)} {st : List Value} {h : AH} {bc bs : Nat} {Q : AO → AH → Prop} (hs' : ∀ q ∈ lv', q ∈ lv) (k : AW X mi pc lv' st h bc bs Q) : AW X mi pc lv st h bc bs Q :=
  fun n0 p l e R s m args below meth c β D dA ad0 sa Qf C ad H locs cells slots ls ha hn hR hl hc hs => k n0 p l e R s m args below meth c β D dA ad0 sa Qf C ad H locs cells slots ls ha hn hR ⟨hl.1, hl.2.1, fun q hq => by
    obtain ⟨z, hz, rfl⟩ := List.mem_map.mp hq
    exact hl.2.2 _ (List.mem_map.mpr ⟨z, hs' z hz, rfl⟩)⟩ hc hs

theorem cW_app {dA : Nat → ClassId} {ad : Nat → Nat} {h g : AH} {k : Nat} {q : Nat × va_E} (e : (cW dA ad h)[k]? = some q) : (cW dA ad (h ++ g))[k]? = some q := by
  obtain ⟨c, h1, rfl⟩ := cW_inv e
  exact cW_get (by rw [List.getElem?_append_left (List.getElem?_eq_some_iff.mp h1).1]; exact h1)
/-- cells that nobody asks for any more -/
theorem AW.drop {X : XS} {mi pc : Nat} {lv : List (Nat × Value)} {st : List Value} {h g : AH} {bc bs : Nat} {Q : AO → AH → Prop} (hn0 : Nat.ble X.2 h.length = true) (k : AW X mi pc lv st h bc bs Q) : AW X mi pc lv st (h ++ g) bc bs Q :=
  fun n0 p l e R s m args below meth c β D dA ad0 sa Qf C ad H locs cells slots ls ha _ hR hl hc hs =>
    k n0 p l e R s m args below meth c β D dA ad0 sa Qf C ad H locs cells slots ls ha (by rw [C.2.2.2.2.2.2.2.2.2.2.2.2.2.2]; exact Nat.le_of_ble_eq_true hn0)
      ⟨fun k q e => hR.1 k q (cW_app e), ⟨fun i j p q hi hj => hR.2.1.1 i j p q (cW_app hi) (cW_app hj), fun k q e => hR.2.1.2 k q (cW_app e)⟩, hR.2.2⟩ hl hc hs
end
section
/-! the rules of AW: one an instruction -/
/-- a local's value -/
def lkp (i : Nat) : List (Nat × Value) → Option Value
  | [] => none
  | q :: r => bif Nat.beq q.1 i then some q.2 else lkp i r
/-- does a store of width w at i take this entry away -/
def klp (w i : Nat) (q : Nat × Value) : Bool := (Nat.beq q.1 i) || (Nat.beq (q.1 + 1) i && Nat.beq q.2.category 2) || (Nat.beq w 2 && Nat.beq q.1 (i + 1))
def stf (w i : Nat) : List (Nat × Value) → List (Nat × Value)
  | [] => []
  | q :: r => bif klp w i q then stf w i r else q :: stf w i r
def sto (w i : Nat) (v : Value) : List (Nat × Value) → List (Nat × Value)
  | [] => [(i, v)]
  | q :: r => bif Nat.beq q.1 i then (i, v) :: stf w i r else bif klp w i q then sto w i v r else q :: sto w i v r
theorem lkp_in {i : Nat} {v : Value} : ∀ {lv : List (Nat × Value)}, lkp i lv = some v → (i, v) ∈ lv
  | [], h => by cases h
  | q :: r, h => by
    unfold lkp at h
    cases hq : Nat.beq q.1 i with
    | true =>
      rw [hq] at h
      have e1 : q.1 = i := Nat.eq_of_beq_eq_true hq
      have e2 : q.2 = v := Option.some.inj h
      rw [← e1, ← e2]
      exact List.mem_cons_self
    | false =>
      rw [hq] at h
      exact List.mem_cons_of_mem _ (lkp_in h)
theorem stf_in {w i : Nat} {q : Nat × Value} : ∀ {lv : List (Nat × Value)}, q ∈ stf w i lv → q ∈ lv ∧ klp w i q = false
  | [], h => by cases h
  | z :: r, h => by
    unfold stf at h
    cases hz : klp w i z with
    | true => rw [hz] at h; exact ⟨List.mem_cons_of_mem _ (stf_in h).1, (stf_in h).2⟩
    | false =>
      rw [hz] at h
      rcases List.mem_cons.mp h with rfl | h
      · exact ⟨List.mem_cons_self, hz⟩
      · exact ⟨List.mem_cons_of_mem _ (stf_in h).1, (stf_in h).2⟩
theorem sto_in {w i : Nat} {v : Value} {q : Nat × Value} : ∀ {lv : List (Nat × Value)}, q ∈ sto w i v lv → q = (i, v) ∨ (q ∈ lv ∧ klp w i q = false)
  | [], h => Or.inl (List.mem_singleton.mp h)
  | z :: r, h => by
    unfold sto at h
    cases hb : Nat.beq z.1 i with
    | true =>
      rw [hb] at h
      rcases List.mem_cons.mp h with rfl | h
      · exact Or.inl rfl
      · exact Or.inr ⟨List.mem_cons_of_mem _ (stf_in h).1, (stf_in h).2⟩
    | false =>
      rw [hb] at h
      cases hz : klp w i z with
      | true =>
        rw [hz] at h
        rcases sto_in (lv := r) h with h | h
        · exact Or.inl h
        · exact Or.inr ⟨List.mem_cons_of_mem _ h.1, h.2⟩
      | false =>
        rw [hz] at h
        rcases List.mem_cons.mp h with rfl | h
        · exact Or.inr ⟨List.mem_cons_self, hz⟩
        · rcases sto_in (lv := r) h with h | h
          · exact Or.inl h
          · exact Or.inr ⟨List.mem_cons_of_mem _ h.1, h.2⟩
theorem tl_at {ad : Nat → Nat} {ls : Array Slot} {n i : Nat} {lv : List (Nat × Value)} {v : Value} (h : lv_has ls n (tl ad lv)) (hk : lkp i lv = some v) : ls[i]? = some (.val (tv ad v)) :=
  h.2.2 (i, tv ad v) (List.mem_map.mpr ⟨(i, v), lkp_in hk, rfl⟩)
theorem tl_sto1 {ad : Nat → Nat} {ls : Array Slot} {n i : Nat} {lv : List (Nat × Value)} {v : Value} (h : lv_has ls n ((i, tv ad v) :: (tl ad lv).filter (fun q => !(q.1 == i) && !(q.1 + 1 == i && q.2.category == 2)))) : lv_has ls n (tl ad (sto 1 i v lv)) := by
  refine ⟨h.1, h.2.1, fun q hq => ?_⟩
  obtain ⟨z, hz, rfl⟩ := List.mem_map.mp hq
  rcases sto_in hz with rfl | ⟨hz, hk⟩
  · exact h.2.2 _ List.mem_cons_self
  · refine h.2.2 _ (List.mem_cons_of_mem _ (List.mem_filter.mpr ⟨List.mem_map.mpr ⟨z, hz, rfl⟩, ?_⟩))
    simp only [klp, Bool.or_eq_false_iff, Bool.and_eq_false_iff] at hk
    obtain ⟨⟨h1, h2⟩, -⟩ := hk
    have e1 : ¬ z.1 = i := Nat.ne_of_beq_eq_false h1
    have e2 : ¬ (z.1 + 1 = i ∧ z.2.category = 2) := fun ⟨a, b⟩ => by
      rcases h2 with h2 | h2
      · exact Nat.ne_of_beq_eq_false h2 a
      · exact Nat.ne_of_beq_eq_false h2 b
    have e3 : ¬ (z.1 + 1 = i ∧ (tv ad z.2).category = 2) := by rw [tv_cat]; exact e2
    simp only [Bool.and_eq_true, Bool.not_eq_true', beq_eq_false_iff_ne, ne_eq, Bool.and_eq_false_iff]
    refine ⟨e1, ?_⟩
    by_cases a : z.1 + 1 = i
    · exact Or.inr (fun b => e3 ⟨a, b⟩)
    · exact Or.inl a
theorem tl_sto2 {ad : Nat → Nat} {ls : Array Slot} {n i : Nat} {lv : List (Nat × Value)} {v : Value} (h : lv_has ls n ((i, tv ad v) :: (tl ad lv).filter (fun q => !(q.1 == i) && (!(q.1 == i + 1) && !(q.1 + 1 == i && q.2.category == 2))))) : lv_has ls n (tl ad (sto 2 i v lv)) := by
  refine ⟨h.1, h.2.1, fun q hq => ?_⟩
  obtain ⟨z, hz, rfl⟩ := List.mem_map.mp hq
  rcases sto_in hz with rfl | ⟨hz, hk⟩
  · exact h.2.2 _ List.mem_cons_self
  · refine h.2.2 _ (List.mem_cons_of_mem _ (List.mem_filter.mpr ⟨List.mem_map.mpr ⟨z, hz, rfl⟩, ?_⟩))
    simp only [klp, Bool.or_eq_false_iff, Bool.and_eq_false_iff] at hk
    obtain ⟨⟨h1, h2⟩, h3⟩ := hk
    have e1 : ¬ z.1 = i := Nat.ne_of_beq_eq_false h1
    have e4 : ¬ z.1 = i + 1 := by
      rcases h3 with h3 | h3
      · exact absurd h3 (by decide)
      · exact Nat.ne_of_beq_eq_false h3
    have e2 : ¬ (z.1 + 1 = i ∧ z.2.category = 2) := fun ⟨a, b⟩ => by
      rcases h2 with h2 | h2
      · exact Nat.ne_of_beq_eq_false h2 a
      · exact Nat.ne_of_beq_eq_false h2 b
    have e3 : ¬ (z.1 + 1 = i ∧ (tv ad z.2).category = 2) := by rw [tv_cat]; exact e2
    simp only [Bool.and_eq_true, Bool.not_eq_true', beq_eq_false_iff_ne, ne_eq, Bool.and_eq_false_iff]
    refine ⟨e1, e4, ?_⟩
    by_cases a : z.1 + 1 = i
    · exact Or.inr (fun b => e3 ⟨a, b⟩)
    · exact Or.inl a
section RULES
variable {X : XS} {mi pc : Nat} {lv : List (Nat × Value)} {rest : List Value} {h : AH} {bc bs : Nat} {Q : AO → AH → Prop}
theorem a_iconst {n : Int} {v : Int32} (d : decode (mB mi) pc = .ok (.iconst n, 1)) (hv : Int32.ofInt n = v) (k : AW X mi (pc + 1) lv (.int v :: rest) h bc bs Q) : AW X mi pc lv (rest) h bc bs Q :=
  fun n0 p l e R s m args below meth c β D dA ad0 sa Qf C ad H locs cells slots ls ha hn hR hl hc hs => lv_iconst C.1 C.2.1 d hv (k n0 p l e R s m args below meth c β D dA ad0 sa Qf C ad H locs cells slots ls ha hn hR hl hc hs)
theorem a_bipush {n : Int} {v : Int32} (d : decode (mB mi) pc = .ok (.bipush n, 2)) (hv : (Int8.ofInt n).toInt32 = v) (k : AW X mi (pc + 2) lv (.int v :: rest) h bc bs Q) : AW X mi pc lv (rest) h bc bs Q :=
  fun n0 p l e R s m args below meth c β D dA ad0 sa Qf C ad H locs cells slots ls ha hn hR hl hc hs => lv_bipush C.1 C.2.1 d hv (k n0 p l e R s m args below meth c β D dA ad0 sa Qf C ad H locs cells slots ls ha hn hR hl hc hs)
theorem a_sipush {n : Int} {v : Int32} (d : decode (mB mi) pc = .ok (.sipush n, 3)) (hv : (Int16.ofInt n).toInt32 = v) (k : AW X mi (pc + 3) lv (.int v :: rest) h bc bs Q) : AW X mi pc lv (rest) h bc bs Q :=
  fun n0 p l e R s m args below meth c β D dA ad0 sa Qf C ad H locs cells slots ls ha hn hR hl hc hs => lv_sipush C.1 C.2.1 d hv (k n0 p l e R s m args below meth c β D dA ad0 sa Qf C ad H locs cells slots ls ha hn hR hl hc hs)
theorem a_lconst {n : Fin 2} {v : Int64} (d : decode (mB mi) pc = .ok (.lconst n, 1)) (hv : Int64.ofNat (n : Nat) = v) (k : AW X mi (pc + 1) lv (.long v :: rest) h bc bs Q) : AW X mi pc lv (rest) h bc bs Q :=
  fun n0 p l e R s m args below meth c β D dA ad0 sa Qf C ad H locs cells slots ls ha hn hR hl hc hs => lv_lconst C.1 C.2.1 d hv (k n0 p l e R s m args below meth c β D dA ad0 sa Qf C ad H locs cells slots ls ha hn hR hl hc hs)
theorem a_fconst0  (d : decode (mB mi) pc = .ok (.fconst 0, 1))  (k : AW X mi (pc + 1) lv (.float FP.fconst0 :: rest) h bc bs Q) : AW X mi pc lv (rest) h bc bs Q :=
  fun n0 p l e R s m args below meth c β D dA ad0 sa Qf C ad H locs cells slots ls ha hn hR hl hc hs => lv_fconst0 C.1 C.2.1 d  (k n0 p l e R s m args below meth c β D dA ad0 sa Qf C ad H locs cells slots ls ha hn hR hl hc hs)
theorem a_dconst0  (d : decode (mB mi) pc = .ok (.dconst 0, 1))  (k : AW X mi (pc + 1) lv (.double FP.dconst0 :: rest) h bc bs Q) : AW X mi pc lv (rest) h bc bs Q :=
  fun n0 p l e R s m args below meth c β D dA ad0 sa Qf C ad H locs cells slots ls ha hn hR hl hc hs => lv_dconst0 C.1 C.2.1 d  (k n0 p l e R s m args below meth c β D dA ad0 sa Qf C ad H locs cells slots ls ha hn hR hl hc hs)
theorem a_iload_n {j : Fin 4} {i : Nat} {x : Int32} (d : decode (mB mi) pc = .ok (.iload_n j, 1)) (hi : (j : Nat) = i) (hx : lkp i lv = some (.int x)) (k : AW X mi (pc + 1) lv (.int x :: rest) h bc bs Q) : AW X mi pc lv (rest) h bc bs Q :=
  fun n0 p l e R s m args below meth c β D dA ad0 sa Qf C ad H locs cells slots ls ha hn hR hl hc hs => lv_iload_n C.1 C.2.1 d hi (tl_at hl hx) (k n0 p l e R s m args below meth c β D dA ad0 sa Qf C ad H locs cells slots ls ha hn hR hl hc hs)
theorem a_iload {i : Nat} {x : Int32} (d : decode (mB mi) pc = .ok (.iload i, 2)) (hx : lkp i lv = some (.int x)) (k : AW X mi (pc + 2) lv (.int x :: rest) h bc bs Q) : AW X mi pc lv (rest) h bc bs Q :=
  fun n0 p l e R s m args below meth c β D dA ad0 sa Qf C ad H locs cells slots ls ha hn hR hl hc hs => lv_iload C.1 C.2.1 d (tl_at hl hx) (k n0 p l e R s m args below meth c β D dA ad0 sa Qf C ad H locs cells slots ls ha hn hR hl hc hs)
theorem a_istore_n {j : Fin 4} {i : Nat} {x : Int32} {lv' : List (Nat × Value)} (d : decode (mB mi) pc = .ok (.istore_n j, 1)) (hi : (j : Nat) = i) (hb : Nat.ble (i + 1) (mL mi) = true) (hv : sto 1 i (.int x) lv = lv') (k : AW X mi (pc + 1) lv' rest h bc bs Q) : AW X mi pc lv (.int x :: rest) h bc bs Q :=
  fun n0 p l e R s m args below meth c β D dA ad0 sa Qf C ad H locs cells slots ls ha hn hR hl hc hs => lv_istore_n C.1 C.2.1 d hi hl (Nat.le_of_ble_eq_true hb) rfl (fun ls hl => k n0 p l e R s m args below meth c β D dA ad0 sa Qf C ad H locs cells slots ls ha hn hR (hv ▸ tl_sto1 hl) hc hs)
theorem a_istore {i : Nat} {x : Int32} {lv' : List (Nat × Value)} (d : decode (mB mi) pc = .ok (.istore i, 2)) (hb : Nat.ble (i + 1) (mL mi) = true) (hv : sto 1 i (.int x) lv = lv') (k : AW X mi (pc + 2) lv' rest h bc bs Q) : AW X mi pc lv (.int x :: rest) h bc bs Q :=
  fun n0 p l e R s m args below meth c β D dA ad0 sa Qf C ad H locs cells slots ls ha hn hR hl hc hs => lv_istore C.1 C.2.1 d hl (Nat.le_of_ble_eq_true hb) rfl (fun ls hl => k n0 p l e R s m args below meth c β D dA ad0 sa Qf C ad H locs cells slots ls ha hn hR (hv ▸ tl_sto1 hl) hc hs)
theorem a_lload_n {j : Fin 4} {i : Nat} {x : Int64} (d : decode (mB mi) pc = .ok (.lload_n j, 1)) (hi : (j : Nat) = i) (hx : lkp i lv = some (.long x)) (k : AW X mi (pc + 1) lv (.long x :: rest) h bc bs Q) : AW X mi pc lv (rest) h bc bs Q :=
  fun n0 p l e R s m args below meth c β D dA ad0 sa Qf C ad H locs cells slots ls ha hn hR hl hc hs => lv_lload_n C.1 C.2.1 d hi (tl_at hl hx) (k n0 p l e R s m args below meth c β D dA ad0 sa Qf C ad H locs cells slots ls ha hn hR hl hc hs)
theorem a_lload {i : Nat} {x : Int64} (d : decode (mB mi) pc = .ok (.lload i, 2)) (hx : lkp i lv = some (.long x)) (k : AW X mi (pc + 2) lv (.long x :: rest) h bc bs Q) : AW X mi pc lv (rest) h bc bs Q :=
  fun n0 p l e R s m args below meth c β D dA ad0 sa Qf C ad H locs cells slots ls ha hn hR hl hc hs => lv_lload C.1 C.2.1 d (tl_at hl hx) (k n0 p l e R s m args below meth c β D dA ad0 sa Qf C ad H locs cells slots ls ha hn hR hl hc hs)
theorem a_lstore_n {j : Fin 4} {i : Nat} {x : Int64} {lv' : List (Nat × Value)} (d : decode (mB mi) pc = .ok (.lstore_n j, 1)) (hi : (j : Nat) = i) (hb : Nat.ble (i + 2) (mL mi) = true) (hv : sto 2 i (.long x) lv = lv') (k : AW X mi (pc + 1) lv' rest h bc bs Q) : AW X mi pc lv (.long x :: rest) h bc bs Q :=
  fun n0 p l e R s m args below meth c β D dA ad0 sa Qf C ad H locs cells slots ls ha hn hR hl hc hs => lv_lstore_n C.1 C.2.1 d hi hl (Nat.le_of_ble_eq_true hb) rfl (fun ls hl => k n0 p l e R s m args below meth c β D dA ad0 sa Qf C ad H locs cells slots ls ha hn hR (hv ▸ tl_sto2 hl) hc hs)
theorem a_lstore {i : Nat} {x : Int64} {lv' : List (Nat × Value)} (d : decode (mB mi) pc = .ok (.lstore i, 2)) (hb : Nat.ble (i + 2) (mL mi) = true) (hv : sto 2 i (.long x) lv = lv') (k : AW X mi (pc + 2) lv' rest h bc bs Q) : AW X mi pc lv (.long x :: rest) h bc bs Q :=
  fun n0 p l e R s m args below meth c β D dA ad0 sa Qf C ad H locs cells slots ls ha hn hR hl hc hs => lv_lstore C.1 C.2.1 d hl (Nat.le_of_ble_eq_true hb) rfl (fun ls hl => k n0 p l e R s m args below meth c β D dA ad0 sa Qf C ad H locs cells slots ls ha hn hR (hv ▸ tl_sto2 hl) hc hs)
theorem a_aload_n {j : Fin 4} {i : Nat} {x : Nat} (d : decode (mB mi) pc = .ok (.aload_n j, 1)) (hi : (j : Nat) = i) (hx : lkp i lv = some (.ref x)) (k : AW X mi (pc + 1) lv (.ref x :: rest) h bc bs Q) : AW X mi pc lv (rest) h bc bs Q :=
  fun n0 p l e R s m args below meth c β D dA ad0 sa Qf C ad H locs cells slots ls ha hn hR hl hc hs => lv_aload_n C.1 C.2.1 d hi (tl_at hl hx) (k n0 p l e R s m args below meth c β D dA ad0 sa Qf C ad H locs cells slots ls ha hn hR hl hc hs)
theorem a_aload {i : Nat} {x : Nat} (d : decode (mB mi) pc = .ok (.aload i, 2)) (hx : lkp i lv = some (.ref x)) (k : AW X mi (pc + 2) lv (.ref x :: rest) h bc bs Q) : AW X mi pc lv (rest) h bc bs Q :=
  fun n0 p l e R s m args below meth c β D dA ad0 sa Qf C ad H locs cells slots ls ha hn hR hl hc hs => lv_aload C.1 C.2.1 d (tl_at hl hx) (k n0 p l e R s m args below meth c β D dA ad0 sa Qf C ad H locs cells slots ls ha hn hR hl hc hs)
theorem a_astore_n {j : Fin 4} {i : Nat} {x : Nat} {lv' : List (Nat × Value)} (d : decode (mB mi) pc = .ok (.astore_n j, 1)) (hi : (j : Nat) = i) (hb : Nat.ble (i + 1) (mL mi) = true) (hv : sto 1 i (.ref x) lv = lv') (k : AW X mi (pc + 1) lv' rest h bc bs Q) : AW X mi pc lv (.ref x :: rest) h bc bs Q :=
  fun n0 p l e R s m args below meth c β D dA ad0 sa Qf C ad H locs cells slots ls ha hn hR hl hc hs => lv_astore_n C.1 C.2.1 d hi hl (Nat.le_of_ble_eq_true hb) rfl (fun ls hl => k n0 p l e R s m args below meth c β D dA ad0 sa Qf C ad H locs cells slots ls ha hn hR (hv ▸ tl_sto1 hl) hc hs)
theorem a_astore {i : Nat} {x : Nat} {lv' : List (Nat × Value)} (d : decode (mB mi) pc = .ok (.astore i, 2)) (hb : Nat.ble (i + 1) (mL mi) = true) (hv : sto 1 i (.ref x) lv = lv') (k : AW X mi (pc + 2) lv' rest h bc bs Q) : AW X mi pc lv (.ref x :: rest) h bc bs Q :=
  fun n0 p l e R s m args below meth c β D dA ad0 sa Qf C ad H locs cells slots ls ha hn hR hl hc hs => lv_astore C.1 C.2.1 d hl (Nat.le_of_ble_eq_true hb) rfl (fun ls hl => k n0 p l e R s m args below meth c β D dA ad0 sa Qf C ad H locs cells slots ls ha hn hR (hv ▸ tl_sto1 hl) hc hs)
theorem a_fload_n {j : Fin 4} {i : Nat} {x : UInt32} (d : decode (mB mi) pc = .ok (.fload_n j, 1)) (hi : (j : Nat) = i) (hx : lkp i lv = some (.float x)) (k : AW X mi (pc + 1) lv (.float x :: rest) h bc bs Q) : AW X mi pc lv (rest) h bc bs Q :=
  fun n0 p l e R s m args below meth c β D dA ad0 sa Qf C ad H locs cells slots ls ha hn hR hl hc hs => lv_fload_n C.1 C.2.1 d hi (tl_at hl hx) (k n0 p l e R s m args below meth c β D dA ad0 sa Qf C ad H locs cells slots ls ha hn hR hl hc hs)
theorem a_fload {i : Nat} {x : UInt32} (d : decode (mB mi) pc = .ok (.fload i, 2)) (hx : lkp i lv = some (.float x)) (k : AW X mi (pc + 2) lv (.float x :: rest) h bc bs Q) : AW X mi pc lv (rest) h bc bs Q :=
  fun n0 p l e R s m args below meth c β D dA ad0 sa Qf C ad H locs cells slots ls ha hn hR hl hc hs => lv_fload C.1 C.2.1 d (tl_at hl hx) (k n0 p l e R s m args below meth c β D dA ad0 sa Qf C ad H locs cells slots ls ha hn hR hl hc hs)
theorem a_fstore_n {j : Fin 4} {i : Nat} {x : UInt32} {lv' : List (Nat × Value)} (d : decode (mB mi) pc = .ok (.fstore_n j, 1)) (hi : (j : Nat) = i) (hb : Nat.ble (i + 1) (mL mi) = true) (hv : sto 1 i (.float x) lv = lv') (k : AW X mi (pc + 1) lv' rest h bc bs Q) : AW X mi pc lv (.float x :: rest) h bc bs Q :=
  fun n0 p l e R s m args below meth c β D dA ad0 sa Qf C ad H locs cells slots ls ha hn hR hl hc hs => lv_fstore_n C.1 C.2.1 d hi hl (Nat.le_of_ble_eq_true hb) rfl (fun ls hl => k n0 p l e R s m args below meth c β D dA ad0 sa Qf C ad H locs cells slots ls ha hn hR (hv ▸ tl_sto1 hl) hc hs)
theorem a_fstore {i : Nat} {x : UInt32} {lv' : List (Nat × Value)} (d : decode (mB mi) pc = .ok (.fstore i, 2)) (hb : Nat.ble (i + 1) (mL mi) = true) (hv : sto 1 i (.float x) lv = lv') (k : AW X mi (pc + 2) lv' rest h bc bs Q) : AW X mi pc lv (.float x :: rest) h bc bs Q :=
  fun n0 p l e R s m args below meth c β D dA ad0 sa Qf C ad H locs cells slots ls ha hn hR hl hc hs => lv_fstore C.1 C.2.1 d hl (Nat.le_of_ble_eq_true hb) rfl (fun ls hl => k n0 p l e R s m args below meth c β D dA ad0 sa Qf C ad H locs cells slots ls ha hn hR (hv ▸ tl_sto1 hl) hc hs)
theorem a_dload_n {j : Fin 4} {i : Nat} {x : UInt64} (d : decode (mB mi) pc = .ok (.dload_n j, 1)) (hi : (j : Nat) = i) (hx : lkp i lv = some (.double x)) (k : AW X mi (pc + 1) lv (.double x :: rest) h bc bs Q) : AW X mi pc lv (rest) h bc bs Q :=
  fun n0 p l e R s m args below meth c β D dA ad0 sa Qf C ad H locs cells slots ls ha hn hR hl hc hs => lv_dload_n C.1 C.2.1 d hi (tl_at hl hx) (k n0 p l e R s m args below meth c β D dA ad0 sa Qf C ad H locs cells slots ls ha hn hR hl hc hs)
theorem a_dload {i : Nat} {x : UInt64} (d : decode (mB mi) pc = .ok (.dload i, 2)) (hx : lkp i lv = some (.double x)) (k : AW X mi (pc + 2) lv (.double x :: rest) h bc bs Q) : AW X mi pc lv (rest) h bc bs Q :=
  fun n0 p l e R s m args below meth c β D dA ad0 sa Qf C ad H locs cells slots ls ha hn hR hl hc hs => lv_dload C.1 C.2.1 d (tl_at hl hx) (k n0 p l e R s m args below meth c β D dA ad0 sa Qf C ad H locs cells slots ls ha hn hR hl hc hs)
theorem a_dstore_n {j : Fin 4} {i : Nat} {x : UInt64} {lv' : List (Nat × Value)} (d : decode (mB mi) pc = .ok (.dstore_n j, 1)) (hi : (j : Nat) = i) (hb : Nat.ble (i + 2) (mL mi) = true) (hv : sto 2 i (.double x) lv = lv') (k : AW X mi (pc + 1) lv' rest h bc bs Q) : AW X mi pc lv (.double x :: rest) h bc bs Q :=
  fun n0 p l e R s m args below meth c β D dA ad0 sa Qf C ad H locs cells slots ls ha hn hR hl hc hs => lv_dstore_n C.1 C.2.1 d hi hl (Nat.le_of_ble_eq_true hb) rfl (fun ls hl => k n0 p l e R s m args below meth c β D dA ad0 sa Qf C ad H locs cells slots ls ha hn hR (hv ▸ tl_sto2 hl) hc hs)
theorem a_dstore {i : Nat} {x : UInt64} {lv' : List (Nat × Value)} (d : decode (mB mi) pc = .ok (.dstore i, 2)) (hb : Nat.ble (i + 2) (mL mi) = true) (hv : sto 2 i (.double x) lv = lv') (k : AW X mi (pc + 2) lv' rest h bc bs Q) : AW X mi pc lv (.double x :: rest) h bc bs Q :=
  fun n0 p l e R s m args below meth c β D dA ad0 sa Qf C ad H locs cells slots ls ha hn hR hl hc hs => lv_dstore C.1 C.2.1 d hl (Nat.le_of_ble_eq_true hb) rfl (fun ls hl => k n0 p l e R s m args below meth c β D dA ad0 sa Qf C ad H locs cells slots ls ha hn hR (hv ▸ tl_sto2 hl) hc hs)
theorem a_iinc {i : Nat} {n : Int} {x v : Int32} {lv' : List (Nat × Value)} (d : decode (mB mi) pc = .ok (.iinc i n, 3)) (hb : Nat.ble (i + 1) (mL mi) = true) (hx : lkp i lv = some (.int x)) (hw : x + Int32.ofInt n = v) (hv : sto 1 i (.int v) lv = lv') (k : AW X mi (pc + 3) lv' rest h bc bs Q) : AW X mi pc lv rest h bc bs Q := by
  intro n0 p l e R s m args below meth c β D dA ad0 sa Qf C ad H locs cells slots ls ha hn hR hl hc hs
  obtain ⟨j, hj⟩ := List.getElem?_of_mem (List.mem_map.mpr ⟨(i, Value.int x), lkp_in hx, rfl⟩ : (i, tv ad (Value.int x)) ∈ tl ad lv)
  exact lv_iinc C.1 C.2.1 d hl hj hw (Nat.le_of_ble_eq_true hb) rfl (fun ls hl => k n0 p l e R s m args below meth c β D dA ad0 sa Qf C ad H locs cells slots ls ha hn hR (hv ▸ tl_sto1 hl) hc hs)
theorem a_iadd {x y : Int32} (d : decode (mB mi) pc = .ok (.iadd, 1))  (k : AW X mi (pc + 1) lv (.int (x + y) :: rest) h bc bs Q) : AW X mi pc lv (.int y :: .int x :: rest) h bc bs Q :=
  fun n0 p l e R s m args below meth c β D dA ad0 sa Qf C ad H locs cells slots ls ha hn hR hl hc hs => lv_iadd C.1 C.2.1 d  (k n0 p l e R s m args below meth c β D dA ad0 sa Qf C ad H locs cells slots ls ha hn hR hl hc hs)
theorem a_isub {x y : Int32} (d : decode (mB mi) pc = .ok (.isub, 1))  (k : AW X mi (pc + 1) lv (.int (x - y) :: rest) h bc bs Q) : AW X mi pc lv (.int y :: .int x :: rest) h bc bs Q :=
  fun n0 p l e R s m args below meth c β D dA ad0 sa Qf C ad H locs cells slots ls ha hn hR hl hc hs => lv_isub C.1 C.2.1 d  (k n0 p l e R s m args below meth c β D dA ad0 sa Qf C ad H locs cells slots ls ha hn hR hl hc hs)
theorem a_imul {x y : Int32} (d : decode (mB mi) pc = .ok (.imul, 1))  (k : AW X mi (pc + 1) lv (.int (x * y) :: rest) h bc bs Q) : AW X mi pc lv (.int y :: .int x :: rest) h bc bs Q :=
  fun n0 p l e R s m args below meth c β D dA ad0 sa Qf C ad H locs cells slots ls ha hn hR hl hc hs => lv_imul C.1 C.2.1 d  (k n0 p l e R s m args below meth c β D dA ad0 sa Qf C ad H locs cells slots ls ha hn hR hl hc hs)
theorem a_iand {x y : Int32} (d : decode (mB mi) pc = .ok (.iand, 1))  (k : AW X mi (pc + 1) lv (.int (x &&& y) :: rest) h bc bs Q) : AW X mi pc lv (.int y :: .int x :: rest) h bc bs Q :=
  fun n0 p l e R s m args below meth c β D dA ad0 sa Qf C ad H locs cells slots ls ha hn hR hl hc hs => lv_iand C.1 C.2.1 d  (k n0 p l e R s m args below meth c β D dA ad0 sa Qf C ad H locs cells slots ls ha hn hR hl hc hs)
theorem a_ior {x y : Int32} (d : decode (mB mi) pc = .ok (.ior, 1))  (k : AW X mi (pc + 1) lv (.int (x ||| y) :: rest) h bc bs Q) : AW X mi pc lv (.int y :: .int x :: rest) h bc bs Q :=
  fun n0 p l e R s m args below meth c β D dA ad0 sa Qf C ad H locs cells slots ls ha hn hR hl hc hs => lv_ior C.1 C.2.1 d  (k n0 p l e R s m args below meth c β D dA ad0 sa Qf C ad H locs cells slots ls ha hn hR hl hc hs)
theorem a_ixor {x y : Int32} (d : decode (mB mi) pc = .ok (.ixor, 1))  (k : AW X mi (pc + 1) lv (.int (x ^^^ y) :: rest) h bc bs Q) : AW X mi pc lv (.int y :: .int x :: rest) h bc bs Q :=
  fun n0 p l e R s m args below meth c β D dA ad0 sa Qf C ad H locs cells slots ls ha hn hR hl hc hs => lv_ixor C.1 C.2.1 d  (k n0 p l e R s m args below meth c β D dA ad0 sa Qf C ad H locs cells slots ls ha hn hR hl hc hs)
theorem a_ladd {x y : Int64} (d : decode (mB mi) pc = .ok (.ladd, 1))  (k : AW X mi (pc + 1) lv (.long (x + y) :: rest) h bc bs Q) : AW X mi pc lv (.long y :: .long x :: rest) h bc bs Q :=
  fun n0 p l e R s m args below meth c β D dA ad0 sa Qf C ad H locs cells slots ls ha hn hR hl hc hs => lv_ladd C.1 C.2.1 d  (k n0 p l e R s m args below meth c β D dA ad0 sa Qf C ad H locs cells slots ls ha hn hR hl hc hs)
theorem a_lmul {x y : Int64} (d : decode (mB mi) pc = .ok (.lmul, 1))  (k : AW X mi (pc + 1) lv (.long (x * y) :: rest) h bc bs Q) : AW X mi pc lv (.long y :: .long x :: rest) h bc bs Q :=
  fun n0 p l e R s m args below meth c β D dA ad0 sa Qf C ad H locs cells slots ls ha hn hR hl hc hs => lv_lmul C.1 C.2.1 d  (k n0 p l e R s m args below meth c β D dA ad0 sa Qf C ad H locs cells slots ls ha hn hR hl hc hs)
theorem a_lsub {x y : Int64} (d : decode (mB mi) pc = .ok (.lsub, 1))  (k : AW X mi (pc + 1) lv (.long (x - y) :: rest) h bc bs Q) : AW X mi pc lv (.long y :: .long x :: rest) h bc bs Q :=
  fun n0 p l e R s m args below meth c β D dA ad0 sa Qf C ad H locs cells slots ls ha hn hR hl hc hs => lv_lsub C.1 C.2.1 d  (k n0 p l e R s m args below meth c β D dA ad0 sa Qf C ad H locs cells slots ls ha hn hR hl hc hs)
theorem a_land {x y : Int64} (d : decode (mB mi) pc = .ok (.land, 1))  (k : AW X mi (pc + 1) lv (.long (x &&& y) :: rest) h bc bs Q) : AW X mi pc lv (.long y :: .long x :: rest) h bc bs Q :=
  fun n0 p l e R s m args below meth c β D dA ad0 sa Qf C ad H locs cells slots ls ha hn hR hl hc hs => lv_land C.1 C.2.1 d  (k n0 p l e R s m args below meth c β D dA ad0 sa Qf C ad H locs cells slots ls ha hn hR hl hc hs)
theorem a_lor {x y : Int64} (d : decode (mB mi) pc = .ok (.lor, 1))  (k : AW X mi (pc + 1) lv (.long (x ||| y) :: rest) h bc bs Q) : AW X mi pc lv (.long y :: .long x :: rest) h bc bs Q :=
  fun n0 p l e R s m args below meth c β D dA ad0 sa Qf C ad H locs cells slots ls ha hn hR hl hc hs => lv_lor C.1 C.2.1 d  (k n0 p l e R s m args below meth c β D dA ad0 sa Qf C ad H locs cells slots ls ha hn hR hl hc hs)
theorem a_ishl {x y : Int32} (d : decode (mB mi) pc = .ok (.ishl, 1))  (k : AW X mi (pc + 1) lv (.int (x <<< (y &&& 31)) :: rest) h bc bs Q) : AW X mi pc lv (.int y :: .int x :: rest) h bc bs Q :=
  fun n0 p l e R s m args below meth c β D dA ad0 sa Qf C ad H locs cells slots ls ha hn hR hl hc hs => lv_ishl C.1 C.2.1 d  (k n0 p l e R s m args below meth c β D dA ad0 sa Qf C ad H locs cells slots ls ha hn hR hl hc hs)
theorem a_ishr {x y : Int32} (d : decode (mB mi) pc = .ok (.ishr, 1))  (k : AW X mi (pc + 1) lv (.int (x >>> (y &&& 31)) :: rest) h bc bs Q) : AW X mi pc lv (.int y :: .int x :: rest) h bc bs Q :=
  fun n0 p l e R s m args below meth c β D dA ad0 sa Qf C ad H locs cells slots ls ha hn hR hl hc hs => lv_ishr C.1 C.2.1 d  (k n0 p l e R s m args below meth c β D dA ad0 sa Qf C ad H locs cells slots ls ha hn hR hl hc hs)
theorem a_idiv {x y : Int32} (d : decode (mB mi) pc = .ok (.idiv, 1)) (hne : ¬ y = 0) (k : AW X mi (pc + 1) lv (.int (x / y) :: rest) h bc bs Q) : AW X mi pc lv (.int y :: .int x :: rest) h bc bs Q :=
  fun n0 p l e R s m args below meth c β D dA ad0 sa Qf C ad H locs cells slots ls ha hn hR hl hc hs => lv_idiv C.1 C.2.1 d hne (k n0 p l e R s m args below meth c β D dA ad0 sa Qf C ad H locs cells slots ls ha hn hR hl hc hs)
theorem a_ldiv {x y : Int64} (d : decode (mB mi) pc = .ok (.ldiv, 1)) (hne : ¬ y = 0) (k : AW X mi (pc + 1) lv (.long (x / y) :: rest) h bc bs Q) : AW X mi pc lv (.long y :: .long x :: rest) h bc bs Q :=
  fun n0 p l e R s m args below meth c β D dA ad0 sa Qf C ad H locs cells slots ls ha hn hR hl hc hs => lv_ldiv C.1 C.2.1 d hne (k n0 p l e R s m args below meth c β D dA ad0 sa Qf C ad H locs cells slots ls ha hn hR hl hc hs)
theorem a_lrem {x y : Int64} (d : decode (mB mi) pc = .ok (.lrem, 1)) (hne : ¬ y = 0) (k : AW X mi (pc + 1) lv (.long (x - x / y * y) :: rest) h bc bs Q) : AW X mi pc lv (.long y :: .long x :: rest) h bc bs Q :=
  fun n0 p l e R s m args below meth c β D dA ad0 sa Qf C ad H locs cells slots ls ha hn hR hl hc hs => lv_lrem C.1 C.2.1 d hne (k n0 p l e R s m args below meth c β D dA ad0 sa Qf C ad H locs cells slots ls ha hn hR hl hc hs)
theorem a_dup2 {v w : Value} (d : decode (mB mi) pc = .ok (.dup2, 1)) (hv : v.category = 1) (hw : w.category = 1) (k : AW X mi (pc + 1) lv (v :: w :: v :: w :: rest) h bc bs Q) : AW X mi pc lv (v :: w :: rest) h bc bs Q :=
  fun n0 p l e R s m args below meth c β D dA ad0 sa Qf C ad H locs cells slots ls ha hn hR hl hc hs => lv_dup2_11 C.1 C.2.1 d ((tv_cat ad v).trans hv) ((tv_cat ad w).trans hw) (k n0 p l e R s m args below meth c β D dA ad0 sa Qf C ad H locs cells slots ls ha hn hR hl hc hs)
theorem a_ifnull {x : Nat} {off : Int} (d : decode (mB mi) pc = .ok (.ifnull off, 3))  (k : AW X mi (pc + 3) lv (rest) h bc bs Q) : AW X mi pc lv (.ref x :: rest) h bc bs Q :=
  fun n0 p l e R s m args below meth c β D dA ad0 sa Qf C ad H locs cells slots ls ha hn hR hl hc hs => lv_ifnull C.1 C.2.1 d  (k n0 p l e R s m args below meth c β D dA ad0 sa Qf C ad H locs cells slots ls ha hn hR hl hc hs)
theorem a_irem {x y : Int32} (d : decode (mB mi) pc = .ok (.irem, 1)) (hne : ¬ y = 0) (k : AW X mi (pc + 1) lv (.int (x - x / y * y) :: rest) h bc bs Q) : AW X mi pc lv (.int y :: .int x :: rest) h bc bs Q :=
  fun n0 p l e R s m args below meth c β D dA ad0 sa Qf C ad H locs cells slots ls ha hn hR hl hc hs => lv_irem C.1 C.2.1 d hne (k n0 p l e R s m args below meth c β D dA ad0 sa Qf C ad H locs cells slots ls ha hn hR hl hc hs)
theorem a_iushr {x y : Int32} (d : decode (mB mi) pc = .ok (.iushr, 1))  (k : AW X mi (pc + 1) lv (.int (x.toUInt32 >>> (y.toUInt32 &&& Int32.toUInt32 31)).toInt32 :: rest) h bc bs Q) : AW X mi pc lv (.int y :: .int x :: rest) h bc bs Q :=
  fun n0 p l e R s m args below meth c β D dA ad0 sa Qf C ad H locs cells slots ls ha hn hR hl hc hs => lv_iushr C.1 C.2.1 d rfl (k n0 p l e R s m args below meth c β D dA ad0 sa Qf C ad H locs cells slots ls ha hn hR hl hc hs)
theorem a_lushr {x : Int64} {y : Int32} (d : decode (mB mi) pc = .ok (.lushr, 1))  (k : AW X mi (pc + 1) lv (.long (x.toUInt64 >>> (y.toInt64.toUInt64 &&& Int64.toUInt64 63)).toInt64 :: rest) h bc bs Q) : AW X mi pc lv (.int y :: .long x :: rest) h bc bs Q :=
  fun n0 p l e R s m args below meth c β D dA ad0 sa Qf C ad H locs cells slots ls ha hn hR hl hc hs => lv_lushr C.1 C.2.1 d rfl (k n0 p l e R s m args below meth c β D dA ad0 sa Qf C ad H locs cells slots ls ha hn hR hl hc hs)
theorem a_lshl {x : Int64} {y : Int32} (d : decode (mB mi) pc = .ok (.lshl, 1))  (k : AW X mi (pc + 1) lv (.long (x <<< (y.toInt64 &&& 63)) :: rest) h bc bs Q) : AW X mi pc lv (.int y :: .long x :: rest) h bc bs Q :=
  fun n0 p l e R s m args below meth c β D dA ad0 sa Qf C ad H locs cells slots ls ha hn hR hl hc hs => lv_lshl C.1 C.2.1 d rfl (k n0 p l e R s m args below meth c β D dA ad0 sa Qf C ad H locs cells slots ls ha hn hR hl hc hs)
theorem a_lshr {x : Int64} {y : Int32} (d : decode (mB mi) pc = .ok (.lshr, 1))  (k : AW X mi (pc + 1) lv (.long (x >>> (y.toInt64 &&& 63)) :: rest) h bc bs Q) : AW X mi pc lv (.int y :: .long x :: rest) h bc bs Q :=
  fun n0 p l e R s m args below meth c β D dA ad0 sa Qf C ad H locs cells slots ls ha hn hR hl hc hs => lv_lshr C.1 C.2.1 d rfl (k n0 p l e R s m args below meth c β D dA ad0 sa Qf C ad H locs cells slots ls ha hn hR hl hc hs)
theorem a_lcmp {x y : Int64} (d : decode (mB mi) pc = .ok (.lcmp, 1))  (k : AW X mi (pc + 1) lv (.int (lg_cmp x y) :: rest) h bc bs Q) : AW X mi pc lv (.long y :: .long x :: rest) h bc bs Q :=
  fun n0 p l e R s m args below meth c β D dA ad0 sa Qf C ad H locs cells slots ls ha hn hR hl hc hs => W.lcmp C.1 C.2.1 d  (k n0 p l e R s m args below meth c β D dA ad0 sa Qf C ad H locs cells slots ls ha hn hR hl hc hs)
theorem a_i2l {x : Int32} (d : decode (mB mi) pc = .ok (.i2l, 1))  (k : AW X mi (pc + 1) lv (.long x.toInt64 :: rest) h bc bs Q) : AW X mi pc lv (.int x :: rest) h bc bs Q :=
  fun n0 p l e R s m args below meth c β D dA ad0 sa Qf C ad H locs cells slots ls ha hn hR hl hc hs => lv_i2l C.1 C.2.1 d rfl (k n0 p l e R s m args below meth c β D dA ad0 sa Qf C ad H locs cells slots ls ha hn hR hl hc hs)
theorem a_l2i {x : Int64} (d : decode (mB mi) pc = .ok (.l2i, 1))  (k : AW X mi (pc + 1) lv (.int x.toInt32 :: rest) h bc bs Q) : AW X mi pc lv (.long x :: rest) h bc bs Q :=
  fun n0 p l e R s m args below meth c β D dA ad0 sa Qf C ad H locs cells slots ls ha hn hR hl hc hs => lv_l2i C.1 C.2.1 d rfl (k n0 p l e R s m args below meth c β D dA ad0 sa Qf C ad H locs cells slots ls ha hn hR hl hc hs)
theorem a_i2c {x : Int32} (d : decode (mB mi) pc = .ok (.i2c, 1))  (k : AW X mi (pc + 1) lv (.int (x.toUInt32 % 65536).toInt32 :: rest) h bc bs Q) : AW X mi pc lv (.int x :: rest) h bc bs Q :=
  fun n0 p l e R s m args below meth c β D dA ad0 sa Qf C ad H locs cells slots ls ha hn hR hl hc hs => lv_i2c C.1 C.2.1 d rfl (k n0 p l e R s m args below meth c β D dA ad0 sa Qf C ad H locs cells slots ls ha hn hR hl hc hs)
theorem a_i2f {x : Int32} (d : decode (mB mi) pc = .ok (.i2f, 1))  (k : AW X mi (pc + 1) lv (.float (FP.i2f x) :: rest) h bc bs Q) : AW X mi pc lv (.int x :: rest) h bc bs Q :=
  fun n0 p l e R s m args below meth c β D dA ad0 sa Qf C ad H locs cells slots ls ha hn hR hl hc hs => lv_i2f C.1 C.2.1 d  (k n0 p l e R s m args below meth c β D dA ad0 sa Qf C ad H locs cells slots ls ha hn hR hl hc hs)
theorem a_i2d {x : Int32} (d : decode (mB mi) pc = .ok (.i2d, 1))  (k : AW X mi (pc + 1) lv (.double (FP.i2d x) :: rest) h bc bs Q) : AW X mi pc lv (.int x :: rest) h bc bs Q :=
  fun n0 p l e R s m args below meth c β D dA ad0 sa Qf C ad H locs cells slots ls ha hn hR hl hc hs => lv_i2d C.1 C.2.1 d  (k n0 p l e R s m args below meth c β D dA ad0 sa Qf C ad H locs cells slots ls ha hn hR hl hc hs)
theorem a_l2d {x : Int64} (d : decode (mB mi) pc = .ok (.l2d, 1))  (k : AW X mi (pc + 1) lv (.double (FP.l2d x) :: rest) h bc bs Q) : AW X mi pc lv (.long x :: rest) h bc bs Q :=
  fun n0 p l e R s m args below meth c β D dA ad0 sa Qf C ad H locs cells slots ls ha hn hR hl hc hs => lv_l2d C.1 C.2.1 d  (k n0 p l e R s m args below meth c β D dA ad0 sa Qf C ad H locs cells slots ls ha hn hR hl hc hs)
theorem a_f2d {x : UInt32} (d : decode (mB mi) pc = .ok (.f2d, 1)) (hne : vf_n64 (FP.f2d x)) (k : AW X mi (pc + 1) lv (.double (FP.f2d x) :: rest) h bc bs Q) : AW X mi pc lv (.float x :: rest) h bc bs Q :=
  fun n0 p l e R s m args below meth c β D dA ad0 sa Qf C ad H locs cells slots ls ha hn hR hl hc hs => lv_f2d C.1 C.2.1 d hne (k n0 p l e R s m args below meth c β D dA ad0 sa Qf C ad H locs cells slots ls ha hn hR hl hc hs)
theorem a_fdiv {x y : UInt32} (d : decode (mB mi) pc = .ok (.fdiv, 1)) (hne : vf_n32 (FP.fdiv x y)) (k : AW X mi (pc + 1) lv (.float (FP.fdiv x y) :: rest) h bc bs Q) : AW X mi pc lv (.float y :: .float x :: rest) h bc bs Q :=
  fun n0 p l e R s m args below meth c β D dA ad0 sa Qf C ad H locs cells slots ls ha hn hR hl hc hs => lv_fdiv C.1 C.2.1 d hne (k n0 p l e R s m args below meth c β D dA ad0 sa Qf C ad H locs cells slots ls ha hn hR hl hc hs)
theorem a_ddiv {x y : UInt64} (d : decode (mB mi) pc = .ok (.ddiv, 1)) (hne : vf_n64 (FP.ddiv x y)) (k : AW X mi (pc + 1) lv (.double (FP.ddiv x y) :: rest) h bc bs Q) : AW X mi pc lv (.double y :: .double x :: rest) h bc bs Q :=
  fun n0 p l e R s m args below meth c β D dA ad0 sa Qf C ad H locs cells slots ls ha hn hR hl hc hs => lv_ddiv C.1 C.2.1 d hne (k n0 p l e R s m args below meth c β D dA ad0 sa Qf C ad H locs cells slots ls ha hn hR hl hc hs)
theorem a_fcmp {x y : UInt32} {op : CmpOp} (d : decode (mB mi) pc = .ok (.fcmp op, 1))  (k : AW X mi (pc + 1) lv (.int (Op.cmpValue (FP.fcmp x y) op) :: rest) h bc bs Q) : AW X mi pc lv (.float y :: .float x :: rest) h bc bs Q :=
  fun n0 p l e R s m args below meth c β D dA ad0 sa Qf C ad H locs cells slots ls ha hn hR hl hc hs => lv_fcmp C.1 C.2.1 d  (k n0 p l e R s m args below meth c β D dA ad0 sa Qf C ad H locs cells slots ls ha hn hR hl hc hs)
theorem a_dcmp {x y : UInt64} {op : CmpOp} (d : decode (mB mi) pc = .ok (.dcmp op, 1))  (k : AW X mi (pc + 1) lv (.int (Op.cmpValue (FP.dcmp x y) op) :: rest) h bc bs Q) : AW X mi pc lv (.double y :: .double x :: rest) h bc bs Q :=
  fun n0 p l e R s m args below meth c β D dA ad0 sa Qf C ad H locs cells slots ls ha hn hR hl hc hs => lv_dcmp C.1 C.2.1 d  (k n0 p l e R s m args below meth c β D dA ad0 sa Qf C ad H locs cells slots ls ha hn hR hl hc hs)
theorem a_dup {v : Value} (d : decode (mB mi) pc = .ok (.dup, 1)) (hv : v.category = 1) (k : AW X mi (pc + 1) lv (v :: v :: rest) h bc bs Q) : AW X mi pc lv (v :: rest) h bc bs Q :=
  fun n0 p l e R s m args below meth c β D dA ad0 sa Qf C ad H locs cells slots ls ha hn hR hl hc hs => lv_dup C.1 C.2.1 d ((tv_cat ad v).trans hv) (k n0 p l e R s m args below meth c β D dA ad0 sa Qf C ad H locs cells slots ls ha hn hR hl hc hs)
theorem a_pop {v : Value} (d : decode (mB mi) pc = .ok (.pop, 1)) (hv : v.category = 1) (k : AW X mi (pc + 1) lv (rest) h bc bs Q) : AW X mi pc lv (v :: rest) h bc bs Q :=
  fun n0 p l e R s m args below meth c β D dA ad0 sa Qf C ad H locs cells slots ls ha hn hR hl hc hs => lv_pop C.1 C.2.1 d ((tv_cat ad v).trans hv) (k n0 p l e R s m args below meth c β D dA ad0 sa Qf C ad H locs cells slots ls ha hn hR hl hc hs)
theorem a_if_eq {x : Int32} {off : Int} {tgt : Nat} (d : decode (mB mi) pc = .ok (.ifCond .eq off, 3)) (ht : (pc : Int) + off = (tgt : Int)) (kt : x = 0 → AW X mi tgt lv rest h bc bs Q) (kf : ¬ x = 0 → AW X mi (pc + 3) lv rest h bc bs Q) : AW X mi pc lv (.int x :: rest) h bc bs Q :=
  fun n0 p l e R s m args below meth c β D dA ad0 sa Qf C ad H locs cells slots ls ha hn hR hl hc hs => lv_if_eq C.1 C.2.1 d ht (fun z => kt z n0 p l e R s m args below meth c β D dA ad0 sa Qf C ad H locs cells slots ls ha hn hR hl hc hs) (fun z => kf z n0 p l e R s m args below meth c β D dA ad0 sa Qf C ad H locs cells slots ls ha hn hR hl hc hs)
theorem a_icmp_eq {x y : Int32} {off : Int} {tgt : Nat} (d : decode (mB mi) pc = .ok (.if_icmp .eq off, 3)) (ht : (pc : Int) + off = (tgt : Int)) (kt : x = y → AW X mi tgt lv rest h bc bs Q) (kf : ¬ x = y → AW X mi (pc + 3) lv rest h bc bs Q) : AW X mi pc lv (.int y :: .int x :: rest) h bc bs Q :=
  fun n0 p l e R s m args below meth c β D dA ad0 sa Qf C ad H locs cells slots ls ha hn hR hl hc hs => lv_icmp_eq C.1 C.2.1 d ht (fun z => kt z n0 p l e R s m args below meth c β D dA ad0 sa Qf C ad H locs cells slots ls ha hn hR hl hc hs) (fun z => kf z n0 p l e R s m args below meth c β D dA ad0 sa Qf C ad H locs cells slots ls ha hn hR hl hc hs)
theorem a_if_ne {x : Int32} {off : Int} {tgt : Nat} (d : decode (mB mi) pc = .ok (.ifCond .ne off, 3)) (ht : (pc : Int) + off = (tgt : Int)) (kt : ¬ x = 0 → AW X mi tgt lv rest h bc bs Q) (kf : x = 0 → AW X mi (pc + 3) lv rest h bc bs Q) : AW X mi pc lv (.int x :: rest) h bc bs Q :=
  fun n0 p l e R s m args below meth c β D dA ad0 sa Qf C ad H locs cells slots ls ha hn hR hl hc hs => lv_if_ne C.1 C.2.1 d ht (fun z => kt z n0 p l e R s m args below meth c β D dA ad0 sa Qf C ad H locs cells slots ls ha hn hR hl hc hs) (fun z => kf z n0 p l e R s m args below meth c β D dA ad0 sa Qf C ad H locs cells slots ls ha hn hR hl hc hs)
theorem a_icmp_ne {x y : Int32} {off : Int} {tgt : Nat} (d : decode (mB mi) pc = .ok (.if_icmp .ne off, 3)) (ht : (pc : Int) + off = (tgt : Int)) (kt : ¬ x = y → AW X mi tgt lv rest h bc bs Q) (kf : x = y → AW X mi (pc + 3) lv rest h bc bs Q) : AW X mi pc lv (.int y :: .int x :: rest) h bc bs Q :=
  fun n0 p l e R s m args below meth c β D dA ad0 sa Qf C ad H locs cells slots ls ha hn hR hl hc hs => lv_icmp_ne C.1 C.2.1 d ht (fun z => kt z n0 p l e R s m args below meth c β D dA ad0 sa Qf C ad H locs cells slots ls ha hn hR hl hc hs) (fun z => kf z n0 p l e R s m args below meth c β D dA ad0 sa Qf C ad H locs cells slots ls ha hn hR hl hc hs)
theorem a_if_lt {x : Int32} {off : Int} {tgt : Nat} (d : decode (mB mi) pc = .ok (.ifCond .lt off, 3)) (ht : (pc : Int) + off = (tgt : Int)) (kt : x < 0 → AW X mi tgt lv rest h bc bs Q) (kf : ¬ x < 0 → AW X mi (pc + 3) lv rest h bc bs Q) : AW X mi pc lv (.int x :: rest) h bc bs Q :=
  fun n0 p l e R s m args below meth c β D dA ad0 sa Qf C ad H locs cells slots ls ha hn hR hl hc hs => lv_if_lt C.1 C.2.1 d ht (fun z => kt z n0 p l e R s m args below meth c β D dA ad0 sa Qf C ad H locs cells slots ls ha hn hR hl hc hs) (fun z => kf z n0 p l e R s m args below meth c β D dA ad0 sa Qf C ad H locs cells slots ls ha hn hR hl hc hs)
theorem a_icmp_lt {x y : Int32} {off : Int} {tgt : Nat} (d : decode (mB mi) pc = .ok (.if_icmp .lt off, 3)) (ht : (pc : Int) + off = (tgt : Int)) (kt : x < y → AW X mi tgt lv rest h bc bs Q) (kf : ¬ x < y → AW X mi (pc + 3) lv rest h bc bs Q) : AW X mi pc lv (.int y :: .int x :: rest) h bc bs Q :=
  fun n0 p l e R s m args below meth c β D dA ad0 sa Qf C ad H locs cells slots ls ha hn hR hl hc hs => lv_icmp_lt C.1 C.2.1 d ht (fun z => kt z n0 p l e R s m args below meth c β D dA ad0 sa Qf C ad H locs cells slots ls ha hn hR hl hc hs) (fun z => kf z n0 p l e R s m args below meth c β D dA ad0 sa Qf C ad H locs cells slots ls ha hn hR hl hc hs)
theorem a_if_ge {x : Int32} {off : Int} {tgt : Nat} (d : decode (mB mi) pc = .ok (.ifCond .ge off, 3)) (ht : (pc : Int) + off = (tgt : Int)) (kt : 0 ≤ x → AW X mi tgt lv rest h bc bs Q) (kf : ¬ 0 ≤ x → AW X mi (pc + 3) lv rest h bc bs Q) : AW X mi pc lv (.int x :: rest) h bc bs Q :=
  fun n0 p l e R s m args below meth c β D dA ad0 sa Qf C ad H locs cells slots ls ha hn hR hl hc hs => lv_if_ge C.1 C.2.1 d ht (fun z => kt z n0 p l e R s m args below meth c β D dA ad0 sa Qf C ad H locs cells slots ls ha hn hR hl hc hs) (fun z => kf z n0 p l e R s m args below meth c β D dA ad0 sa Qf C ad H locs cells slots ls ha hn hR hl hc hs)
theorem a_icmp_ge {x y : Int32} {off : Int} {tgt : Nat} (d : decode (mB mi) pc = .ok (.if_icmp .ge off, 3)) (ht : (pc : Int) + off = (tgt : Int)) (kt : y ≤ x → AW X mi tgt lv rest h bc bs Q) (kf : ¬ y ≤ x → AW X mi (pc + 3) lv rest h bc bs Q) : AW X mi pc lv (.int y :: .int x :: rest) h bc bs Q :=
  fun n0 p l e R s m args below meth c β D dA ad0 sa Qf C ad H locs cells slots ls ha hn hR hl hc hs => lv_icmp_ge C.1 C.2.1 d ht (fun z => kt z n0 p l e R s m args below meth c β D dA ad0 sa Qf C ad H locs cells slots ls ha hn hR hl hc hs) (fun z => kf z n0 p l e R s m args below meth c β D dA ad0 sa Qf C ad H locs cells slots ls ha hn hR hl hc hs)
theorem a_if_gt {x : Int32} {off : Int} {tgt : Nat} (d : decode (mB mi) pc = .ok (.ifCond .gt off, 3)) (ht : (pc : Int) + off = (tgt : Int)) (kt : 0 < x → AW X mi tgt lv rest h bc bs Q) (kf : ¬ 0 < x → AW X mi (pc + 3) lv rest h bc bs Q) : AW X mi pc lv (.int x :: rest) h bc bs Q :=
  fun n0 p l e R s m args below meth c β D dA ad0 sa Qf C ad H locs cells slots ls ha hn hR hl hc hs => lv_if_gt C.1 C.2.1 d ht (fun z => kt z n0 p l e R s m args below meth c β D dA ad0 sa Qf C ad H locs cells slots ls ha hn hR hl hc hs) (fun z => kf z n0 p l e R s m args below meth c β D dA ad0 sa Qf C ad H locs cells slots ls ha hn hR hl hc hs)
theorem a_icmp_gt {x y : Int32} {off : Int} {tgt : Nat} (d : decode (mB mi) pc = .ok (.if_icmp .gt off, 3)) (ht : (pc : Int) + off = (tgt : Int)) (kt : y < x → AW X mi tgt lv rest h bc bs Q) (kf : ¬ y < x → AW X mi (pc + 3) lv rest h bc bs Q) : AW X mi pc lv (.int y :: .int x :: rest) h bc bs Q :=
  fun n0 p l e R s m args below meth c β D dA ad0 sa Qf C ad H locs cells slots ls ha hn hR hl hc hs => lv_icmp_gt C.1 C.2.1 d ht (fun z => kt z n0 p l e R s m args below meth c β D dA ad0 sa Qf C ad H locs cells slots ls ha hn hR hl hc hs) (fun z => kf z n0 p l e R s m args below meth c β D dA ad0 sa Qf C ad H locs cells slots ls ha hn hR hl hc hs)
theorem a_if_le {x : Int32} {off : Int} {tgt : Nat} (d : decode (mB mi) pc = .ok (.ifCond .le off, 3)) (ht : (pc : Int) + off = (tgt : Int)) (kt : x ≤ 0 → AW X mi tgt lv rest h bc bs Q) (kf : ¬ x ≤ 0 → AW X mi (pc + 3) lv rest h bc bs Q) : AW X mi pc lv (.int x :: rest) h bc bs Q :=
  fun n0 p l e R s m args below meth c β D dA ad0 sa Qf C ad H locs cells slots ls ha hn hR hl hc hs => lv_if_le C.1 C.2.1 d ht (fun z => kt z n0 p l e R s m args below meth c β D dA ad0 sa Qf C ad H locs cells slots ls ha hn hR hl hc hs) (fun z => kf z n0 p l e R s m args below meth c β D dA ad0 sa Qf C ad H locs cells slots ls ha hn hR hl hc hs)
theorem a_icmp_le {x y : Int32} {off : Int} {tgt : Nat} (d : decode (mB mi) pc = .ok (.if_icmp .le off, 3)) (ht : (pc : Int) + off = (tgt : Int)) (kt : x ≤ y → AW X mi tgt lv rest h bc bs Q) (kf : ¬ x ≤ y → AW X mi (pc + 3) lv rest h bc bs Q) : AW X mi pc lv (.int y :: .int x :: rest) h bc bs Q :=
  fun n0 p l e R s m args below meth c β D dA ad0 sa Qf C ad H locs cells slots ls ha hn hR hl hc hs => lv_icmp_le C.1 C.2.1 d ht (fun z => kt z n0 p l e R s m args below meth c β D dA ad0 sa Qf C ad H locs cells slots ls ha hn hR hl hc hs) (fun z => kf z n0 p l e R s m args below meth c β D dA ad0 sa Qf C ad H locs cells slots ls ha hn hR hl hc hs)
theorem a_goto {off : Int} {tgt : Nat} (d : decode (mB mi) pc = .ok (.goto off, 3)) (ht : (pc : Int) + off = (tgt : Int)) (k : AW X mi tgt lv rest h bc bs Q) : AW X mi pc lv rest h bc bs Q :=
  fun n0 p l e R s m args below meth c β D dA ad0 sa Qf C ad H locs cells slots ls ha hn hR hl hc hs => lv_goto C.1 C.2.1 d ht (k n0 p l e R s m args below meth c β D dA ad0 sa Qf C ad H locs cells slots ls ha hn hR hl hc hs)
theorem a_tableIn {dflt lo hi : Int} {offs : Array Int} {len : Nat} {x : Int32} {off : Int} {tgt : Nat} (d : decode (mB mi) pc = .ok (.tableswitch dflt lo hi offs, len)) (h1 : ¬ x.toInt < lo) (h2 : ¬ hi < x.toInt) (ho : offs[(x.toInt - lo).toNat]? = some off) (ht : (pc : Int) + off = (tgt : Int)) (k : AW X mi tgt lv rest h bc bs Q) : AW X mi pc lv (.int x :: rest) h bc bs Q :=
  fun n0 p l e R s m args below meth c β D dA ad0 sa Qf C ad H locs cells slots ls ha hn hR hl hc hs => lv_tableIn C.1 C.2.1 d h1 h2 ho ht (k n0 p l e R s m args below meth c β D dA ad0 sa Qf C ad H locs cells slots ls ha hn hR hl hc hs)
theorem a_tableOut {dflt lo hi : Int} {offs : Array Int} {len : Nat} {x : Int32} {tgt : Nat} (d : decode (mB mi) pc = .ok (.tableswitch dflt lo hi offs, len)) (h1 : x.toInt < lo ∨ hi < x.toInt) (ht : (pc : Int) + dflt = (tgt : Int)) (k : AW X mi tgt lv rest h bc bs Q) : AW X mi pc lv (.int x :: rest) h bc bs Q :=
  fun n0 p l e R s m args below meth c β D dA ad0 sa Qf C ad H locs cells slots ls ha hn hR hl hc hs => lv_tableOut C.1 C.2.1 d h1 ht (k n0 p l e R s m args below meth c β D dA ad0 sa Qf C ad H locs cells slots ls ha hn hR hl hc hs)
theorem a_ireturn {x : Int32} (d : decode (mB mi) pc = .ok (.ireturn, 1)) (hr : nr mi x) (k : Q (.inl (some (.int x))) h) : AW X mi pc lv [.int x] h bc bs Q :=
  fun n0 p l e R s m args below meth c β D dA ad0 sa Qf C ad H locs cells slots ls ha hn hR hl hc hs => C.2.2.2.2.2.2.2.2.2.2.2.1 (some (.int x)) h ad H locs cells slots pc ls .ireturn k ⟨x, rfl, hr⟩ d ha hn hR (by omega) (by omega)
theorem a_lreturn {x : Int64} (d : decode (mB mi) pc = .ok (.lreturn, 1)) (hr : mR mi = some .long) (k : Q (.inl (some (.long x))) h) : AW X mi pc lv [.long x] h bc bs Q :=
  fun n0 p l e R s m args below meth c β D dA ad0 sa Qf C ad H locs cells slots ls ha hn hR hl hc hs => C.2.2.2.2.2.2.2.2.2.2.2.1 (some (.long x)) h ad H locs cells slots pc ls .lreturn k ⟨x, rfl, hr⟩ d ha hn hR (by omega) (by omega)
theorem a_freturn {x : UInt32} (d : decode (mB mi) pc = .ok (.freturn, 1)) (hr : mR mi = some .float) (k : Q (.inl (some (.float x))) h) : AW X mi pc lv [.float x] h bc bs Q :=
  fun n0 p l e R s m args below meth c β D dA ad0 sa Qf C ad H locs cells slots ls ha hn hR hl hc hs => C.2.2.2.2.2.2.2.2.2.2.2.1 (some (.float x)) h ad H locs cells slots pc ls .freturn k ⟨x, rfl, hr⟩ d ha hn hR (by omega) (by omega)
theorem a_dreturn {x : UInt64} (d : decode (mB mi) pc = .ok (.dreturn, 1)) (hr : mR mi = some .double) (k : Q (.inl (some (.double x))) h) : AW X mi pc lv [.double x] h bc bs Q :=
  fun n0 p l e R s m args below meth c β D dA ad0 sa Qf C ad H locs cells slots ls ha hn hR hl hc hs => C.2.2.2.2.2.2.2.2.2.2.2.1 (some (.double x)) h ad H locs cells slots pc ls .dreturn k ⟨x, rfl, hr⟩ d ha hn hR (by omega) (by omega)
theorem a_areturn {x : Nat} (d : decode (mB mi) pc = .ok (.areturn, 1)) (hr : ∃ rt, mR mi = some rt ∧ ((∃ n, rt = .object n) ∨ ∃ t, rt = .array t)) (k : Q (.inl (some (.ref x))) h) : AW X mi pc lv [.ref x] h bc bs Q :=
  fun n0 p l e R s m args below meth c β D dA ad0 sa Qf C ad H locs cells slots ls ha hn hR hl hc hs => C.2.2.2.2.2.2.2.2.2.2.2.1 (some (.ref x)) h ad H locs cells slots pc ls .areturn k ⟨x, rfl, hr⟩ d ha hn hR (by omega) (by omega)
theorem a_return (d : decode (mB mi) pc = .ok (.return_, 1)) (hr : mR mi = none) (k : Q (.inl none) h) : AW X mi pc lv [] h bc bs Q :=
  fun n0 p l e R s m args below meth c β D dA ad0 sa Qf C ad H locs cells slots ls ha hn hR hl hc hs => C.2.2.2.2.2.2.2.2.2.2.2.1 none h ad H locs cells slots pc ls .return_ k ⟨rfl, hr⟩ d ha hn hR (by omega) (by omega)
theorem nr_int (h : mR mi = some .int) (x : Int32) : nr mi x := ⟨.int, h, rfl⟩
theorem nr_bool (h : mR mi = some .boolean) {x : Int32} (hx : x = 0 ∨ x = 1) : nr mi x := ⟨.boolean, h, by rcases hx with rfl | rfl <;> rfl⟩
theorem a_throw {en si : Nat} (q : thI mi pc en si) (hb : 1 ≤ bc ∧ 6 ≤ bs) (hw : (rest.map fun v => v.category).sum ≤ 8) (k : Q (.inr en) h) : AW X mi pc lv rest h bc bs Q :=
  fun n0 p l e R s m args below meth c β D dA ad0 sa Qf C ad H locs cells slots ls ha hn hR hl hc hs => C.2.2.2.2.2.2.2.2.2.2.2.2.2.1 en si h ad H locs cells slots pc ls _ k q ha hn hR hl.1 (by rw [List.map_map]; simpa [Function.comp_def, tv_cat] using hw) (by omega) (by omega)
end RULES
end
section
/-! rules that touch the heap; calls; a method's contract out of its walk -/
theorem XU_tbl {w : Cond} (h : w ∈ XU) : w ∈ lw_tbl := (List.mem_filter.mp h).1
theorem XU_good {w : Cond} (h : w ∈ XU) : goodWord w = true := (List.mem_filter.mp h).2
theorem GoodIn_XU {ws : List Cond} (h : ∀ w ∈ ws, w ∈ XU) : GoodIn XU ws := fun w hw => ⟨h w hw, good_of_word (XU_good (h w hw))⟩
def kOk (a : Nat) : Prop := kcl[a]? = some ((kC a).1, (kC a).2.1, (kC a).2.2) ∧ (∀ w ∈ u_ws (kC a).1 (kC a).2.1 (kC a).2.2, w ∈ XU) ∧ (∀ k, k < (kC a).2.2 → parseFieldDescriptor ((kC a).2.1 k).2.2.1 = some (kT a k)) ∧
  (∀ x, x < (kC a).2.2 → ∀ y, y < (kC a).2.2 → x ≠ y → ((kC a).2.1 x).2.1 ≠ ((kC a).2.1 y).2.1) ∧ Cond.instantiable (kC a).1 (kC a).2.2 ∈ XU ∧ Cond.initialized (kC a).1 ∈ XU ∧ ∀ k, k < (kC a).2.2 → ((kC a).2.1 k).1 = (kC a).1
theorem xu_of {ws : List Cond} (h : ∀ w ∈ ws, w ∈ tables_1 ∧ goodWord w = true) : ∀ w ∈ ws, w ∈ XU := fun w hw => xu_t (h w hw).1 (h w hw).2
set_option maxRecDepth 100000 in
theorem kOk0 : kOk 0 := ⟨rfl, xu_of (by decide +kernel), tyX0_ok, nmX0, xu_t (by decide +kernel) (by decide +kernel), xu_t (by decide +kernel) (by decide +kernel), by decide +kernel⟩
set_option maxRecDepth 100000 in
theorem kOk1 : kOk 1 := ⟨rfl, xu_of (by decide +kernel), tyX2_ok, nmX2, xu_t (by decide +kernel) (by decide +kernel), xu_t (by decide +kernel) (by decide +kernel), by decide +kernel⟩
set_option maxRecDepth 100000 in
theorem kOk2 : kOk 2 := ⟨rfl, xu_of (by decide +kernel), tyX3_ok, nmX3, xu_t (by decide +kernel) (by decide +kernel), xu_t (by decide +kernel) (by decide +kernel), by decide +kernel⟩
set_option maxRecDepth 100000 in
theorem kOk3 : kOk 3 := ⟨rfl, xu_of (by decide +kernel), tyX4_ok, nmX4, xu_t (by decide +kernel) (by decide +kernel), xu_t (by decide +kernel) (by decide +kernel), by decide +kernel⟩
set_option maxRecDepth 100000 in
theorem kOk4 : kOk 4 := ⟨rfl, xu_of (by decide +kernel), tyX6_ok, nmX6, xu_t (by decide +kernel) (by decide +kernel), xu_t (by decide +kernel) (by decide +kernel), by decide +kernel⟩
set_option maxRecDepth 100000 in
theorem kOk5 : kOk 5 := ⟨rfl, xu_of (by decide +kernel), tyX7_ok, nmX7, xu_t (by decide +kernel) (by decide +kernel), xu_t (by decide +kernel) (by decide +kernel), by decide +kernel⟩
set_option maxRecDepth 100000 in
theorem kOk6 : kOk 6 := ⟨rfl, xu_of (by decide +kernel), tyX8_ok, nmX8, xu_t (by decide +kernel) (by decide +kernel), xu_t (by decide +kernel) (by decide +kernel), by decide +kernel⟩
set_option maxRecDepth 100000 in
theorem kOk7 : kOk 7 := ⟨rfl, xu_of (by decide +kernel), tyX9_ok, nmX9, xu_t (by decide +kernel) (by decide +kernel), xu_t (by decide +kernel) (by decide +kernel), by decide +kernel⟩
theorem kok (a : Nat) (h : a < 8) : kOk a := by
  match a, h with
  | 0, _ => exact kOk0
  | 1, _ => exact kOk1
  | 2, _ => exact kOk2
  | 3, _ => exact kOk3
  | 4, _ => exact kOk4
  | 5, _ => exact kOk5
  | 6, _ => exact kOk6
  | 7, _ => exact kOk7
  | a + 9, h => exact absurd h (by omega)
theorem dN_ok (i : Nat) (h : i < 151) : dN (mD i) = (mY i).cls := by
  have h1 := (yw i h).1
  simp only [yb, Bool.and_eq_true, decide_eq_true_eq] at h1
  exact h1.2
theorem dN_ok2 (i : Nat) (h : i < 152) : dN (mD i) = (mY i).cls := by
  by_cases e : i = 151
  · subst e; decide +kernel
  · exact dN_ok i (by omega)
/-- a link word of a method, before it runs -/
theorem lk_bef {mi : Nat} {e : Nat × Nat × Nat × Nat} {s : State} {args : Array Value} (hm : mi < 152) (h : (lks (mD mi)).contains e = true) (h8 : e.2.1 < 8) (hts : ∀ w ∈ XU, w.before args s = true) : (lkw (mD mi) e).before args s = true := by
  rcases lk_ok (mD mi) e (by simpa using h) with h1 | ⟨h1, h2⟩
  · exact hts _ h1
  · exact absurd h1 (by omega)
def nstB (w : Cond) : Bool := match w with
  | .fieldLinkNest .. => true
  | .methodLinkNest .. => true
  | _ => false
theorem nst_in : ∀ (c : Nat) (e : Nat × Nat × Nat × Nat), e ∈ lks c → (e.2.1 = 8 ∨ e.2.1 = 9) → lkw c e ∈ NGL := by
  intro c e he h8
  have key : ∀ c, c < 14 → ∀ e ∈ lks c, (e.2.1 = 8 ∨ e.2.1 = 9) → lkw c e ∈ NGL := by
    intro c hc e he h8
    have h1 : lkw c e ∈ XU ∨ (8 ≤ e.2.1 ∧ lkw c e ∈ tables_1) := lk_ok c e he
    have hng : isNG (lkw c e) = true := by
      obtain ⟨i, k, a, b⟩ := e
      rcases h8 with h8 | h8
      · simp only at h8; subst h8; rfl
      · simp only at h8; subst h8; rfl
    have hgw : goodWord (lkw c e) = false := by
      obtain ⟨i, k, a, b⟩ := e
      rcases h8 with h8 | h8
      · simp only at h8; subst h8; rfl
      · simp only at h8; subst h8; rfl
    rcases h1 with h1 | ⟨-, h2⟩
    · have h3 := XU_good h1
      rw [hgw] at h3
      cases h3
    · exact List.mem_filter.mpr ⟨h2, hng⟩
  by_cases hc : c < 14
  · exact key c hc e he h8
  · have : lks c = [] := by
      unfold lks
      simp only [List.getD_eq_getElem?_getD]
      rw [List.getElem?_eq_none (by simp [lkl]; omega)]
      rfl
    rw [this] at he
    cases he
def gfB (mi pc i a b : Nat) : Bool := decide (mi < 152) && decide (decode (mB mi) pc = .ok (.getfield i, 3)) && (lks (mD mi)).contains (i, 0, a, b) && decide (a < 8) && decide (b < (kC a).2.2)
def pfB (mi pc i a b : Nat) : Bool := decide (mi < 152) && decide (decode (mB mi) pc = .ok (.putfield i, 3)) && (lks (mD mi)).contains (i, 0, a, b) && decide (a < 8) && decide (b < (kC a).2.2) && (!((kC a).2.1 b).2.2.2 || (decide ((mY mi).name = "<init>") && decide ((kC a).1 = (mY mi).cls)))
def gsB (mi pc i a n : Nat) : Bool := decide (mi < 152) && decide (decode (mB mi) pc = .ok (.getstatic i, 3)) && (lks (mD mi)).contains (i, n, a, 0) && decide (a < 3) && (decide (n = 1) || decide (n = 8))
theorem tv_narrow {ty : FieldType} {v : Value} {ad : Nat → Nat} (h : narrow ty v = v) : narrow ty (tv ad v) = tv ad v := by
  cases v <;> first | exact h | (cases ty <;> rfl)
theorem tv_fits {ty : FieldType} {v : Value} {ad : Nat → Nat} (h : fits ty v = true) : fits ty (tv ad v) = true := by
  cases v <;> first | exact h | (cases ty <;> first | exact h | rfl)
section HEAP
variable {X : XS} {mi pc : Nat} {lv : List (Nat × Value)} {rest : List Value} {h : AH} {bc bs : Nat} {Q : AO → AH → Prop}
theorem a_getfield {i a b o : Nat} {fs : List Value} {v : Value} (q : gfB mi pc i a b = true) (ho : h[o]? = some (.inl (a, fs))) (hv : fs[b]? = some v) (k : AW X mi (pc + 3) lv (v :: rest) h bc bs Q) : AW X mi pc lv (.ref o :: rest) h bc bs Q := by
  intro n0 p l e R s m args below meth c β D dA ad0 sa Qf C ad H locs cells slots ls ha hn hR hl hc hs
  simp only [gfB, Bool.and_eq_true, decide_eq_true_eq] at q
  obtain ⟨⟨⟨⟨hm, d⟩, hlk⟩, ha9⟩, hb⟩ := q
  obtain ⟨hk1, hk2, -, -, -, -, hk7⟩ := kok a ha9
  have hlink := lk_bef hm hlk (Nat.le_of_ble_eq_true rfl) C.2.2.2.2.1
  refine va_get C.1 C.2.1 C.2.2.2.2.1 hk2 C.2.2.2.1 C.2.2.2.2.2.2.1.1 hR.1 o (cW_get ho) hk1 b hb (by rw [← dN_ok2 mi hm]; exact hlink) (fun x hx => by rw [hk7 b hb] at hx; exact hx) (v := tv ad v) (by rw [List.getElem?_map, hv]; rfl) d ?_
  exact k n0 p l e R s m args below meth c β D dA ad0 sa Qf C ad H locs cells slots ls ha hn hR hl hc hs
theorem a_putfield {i a b o : Nat} {fs : List Value} {v : Value} (q : pfB mi pc i a b = true) (ho : h[o]? = some (.inl (a, fs))) (hnr : narrow (kT a b) v = v) (hft : fits (kT a b) v = true) (hbl : Nat.ble (b + 1) fs.length = true) (k : AW X mi (pc + 3) lv rest (h.set o (.inl (a, fs.set b v))) bc bs Q) : AW X mi pc lv (v :: .ref o :: rest) h bc bs Q := by
  intro n0 p l e R s m args below meth c β D dA ad0 sa Qf C ad H locs cells slots ls ha hn hR hl hc hs
  simp only [pfB, Bool.and_eq_true, decide_eq_true_eq] at q
  obtain ⟨⟨⟨⟨⟨hm, d⟩, hlk⟩, ha9⟩, hb⟩, hfin⟩ := q
  obtain ⟨hk1, hk2, hk3, hk4, -, -, hk7⟩ := kok a ha9
  have hlink := lk_bef hm hlk (Nat.le_of_ble_eq_true rfl) C.2.2.2.2.1
  have hlink' : (Cond.fieldLink (mY mi).cls i (kC a).1 ((kC a).2.1 b).2.1 ((kC a).2.1 b).2.2.1).before args s = true := by rw [← dN_ok2 mi hm]; exact hlink
  have hnr' : narrow (kT a b) (tv ad v) = tv ad v := tv_narrow hnr
  have hft' : fits (kT a b) (tv ad v) = true := tv_fits hft
  have hbl' : b < (fs.map (tv ad)).length := by rw [List.length_map]; exact Nat.le_of_ble_eq_true hbl
  have hw : (cW dA ad h).set o (ad o, .inr (a, (fs.map (tv ad)).set b (tv ad v))) = cW dA ad (h.set o (.inl (a, fs.set b v))) := by
    rw [← cW_set]
    simp [cE, List.map_set]
  cases hf : ((kC a).2.1 b).2.2.2 with
  | false =>
    refine va_put C.1 C.2.1 C.2.2.2.2.1 hk2 (kT a) hk3 hk4 C.2.2.2.1 C.2.2.2.2.2.2.1.1 hR.1 hR.2.1 hR.2.2 o (cW_get ho) hk1 b hb hlink' (fun x hx => by rw [hk7 b hb] at hx; exact hx) hf (hk3 b hb) hnr' hft' hbl' d (fun H1 locs1 hP1 hD1 hS1 => ?_)
    rw [hw] at hP1 hD1
    exact k n0 p l e R s m args below meth c β D dA ad0 sa Qf C ad H1 locs1 cells slots ls ha (by rw [List.length_set]; exact hn) ⟨hP1, hD1, hS1⟩ hl hc hs
  | true =>
    rw [hf] at hfin
    simp only [Bool.not_true, Bool.false_or, Bool.and_eq_true, decide_eq_true_eq] at hfin
    refine va_putF C.1 C.2.1 C.2.2.2.2.1 hk2 (kT a) hk3 hk4 C.2.2.2.1 C.2.2.2.2.2.2.1.1 hR.1 hR.2.1 hR.2.2 o (cW_get ho) hk1 b hb hlink' (fun x hx => by rw [hk7 b hb] at hx; exact hx) hf (C.2.2.2.2.2.2.2.2.1 hfin.1) (by rw [hk7 b hb]; exact hfin.2) (hk3 b hb) hnr' hft' hbl' d (fun H1 locs1 hP1 hD1 hS1 => ?_)
    rw [hw] at hP1 hD1
    exact k n0 p l e R s m args below meth c β D dA ad0 sa Qf C ad H1 locs1 cells slots ls ha (by rw [List.length_set]; exact hn) ⟨hP1, hD1, hS1⟩ hl hc hs
theorem a_getstatic {i a n : Nat} (q : gsB mi pc i a n = true) (k : AW X mi (pc + 3) lv (.ref (1000 + a) :: rest) h bc bs Q) : AW X mi pc lv rest h bc bs Q := by
  intro n0 p l e R s m args below meth c β D dA ad0 sa Qf C ad H locs cells slots ls ha hn hR hl hc hs
  simp only [gsB, Bool.and_eq_true, Bool.or_eq_true, decide_eq_true_eq] at q
  obtain ⟨⟨⟨⟨hm, d⟩, hlk⟩, ha3⟩, hn8⟩ := q
  have hsa : ∃ z, saN[a]? = some z ∧ saN.getD a ("", "", "") = z := ⟨saN.getD a ("", "", ""), by rcases (show a = 0 ∨ a = 1 ∨ a = 2 by omega) with rfl | rfl | rfl <;> rfl, rfl⟩
  obtain ⟨⟨SC, n1, d1⟩, hz1, hz2⟩ := hsa
  have hZ := C.2.2.2.2.2.2.1.2.2.1 a _ hz1
  have hadk : ad (1000 + a) = ad0 (1000 + a) := ha.2 _ (Or.inr (by omega))
  rcases hn8 with rfl | rfl
  · have hlink := lk_bef hm hlk (Nat.le_of_ble_eq_true rfl) C.2.2.2.2.1
    simp only [lkw, hz2] at hlink
    rw [dN_ok2 mi hm] at hlink
    refine va_gets C.1 C.2.1 hZ hR.2.2 C.2.2.2.1 hlink (fun x hx => hx) d ?_
    rw [← hadk]
    exact k n0 p l e R s m args below meth c β D dA ad0 sa Qf C ad H locs cells slots ls ha hn hR hl hc hs
  · have hin := nst_in (mD mi) (i, 8, a, 0) (by simpa using hlk) (Or.inl rfl)
    have hlink := C.2.2.2.2.2.2.1.2.2.2.2.2.2.1 _ hin
    simp only [lkw, hz2] at hlink
    rw [dN_ok2 mi hm] at hlink
    refine va_getsN C.1 C.2.1 hZ hR.2.2 C.2.2.2.1 (va_Nw.use rfl hlink) (fun x hx => hx) d ?_
    rw [← hadk]
    exact k n0 p l e R s m args below meth c β D dA ad0 sa Qf C ad H locs cells slots ls ha hn hR hl hc hs
theorem a_ldc {i : Nat} {z : Nat} {v : Int32} (q : (decide (mi < 152) && decide (decode (mB mi) pc = .ok (.ldc_w i, 3)) && (lks (mD mi)).contains (i, 6, z, 0)) = true) (hv : Int32.ofNat z = v) (k : AW X mi (pc + 3) lv (.int v :: rest) h bc bs Q) : AW X mi pc lv rest h bc bs Q := by
  intro n0 p l e R s m args below meth c β D dA ad0 sa Qf C ad H locs cells slots ls ha hn hR hl hc hs
  simp only [Bool.and_eq_true, decide_eq_true_eq] at q
  obtain ⟨⟨hm, d⟩, hlk⟩ := q
  have hlink : (Cond.constant (dN (mD mi)) i (Int32.ofNat z)).before args s = true := lk_bef hm hlk (Nat.le_of_ble_eq_true rfl) C.2.2.2.2.1
  rw [dN_ok2 mi hm, hv] at hlink
  exact lv_ldcw C.1 C.2.1 C.2.2.2.1 hlink d (k n0 p l e R s m args below meth c β D dA ad0 sa Qf C ad H locs cells slots ls ha hn hR hl hc hs)
theorem a_ldc1 {i : Nat} {z : Nat} {v : Int32} (q : (decide (mi < 152) && decide (decode (mB mi) pc = .ok (.ldc i, 2)) && (lks (mD mi)).contains (i, 6, z, 0)) = true) (hv : Int32.ofNat z = v) (k : AW X mi (pc + 2) lv (.int v :: rest) h bc bs Q) : AW X mi pc lv rest h bc bs Q := by
  intro n0 p l e R s m args below meth c β D dA ad0 sa Qf C ad H locs cells slots ls ha hn hR hl hc hs
  simp only [Bool.and_eq_true, decide_eq_true_eq] at q
  obtain ⟨⟨hm, d⟩, hlk⟩ := q
  have hlink : (Cond.constant (dN (mD mi)) i (Int32.ofNat z)).before args s = true := lk_bef hm hlk (Nat.le_of_ble_eq_true rfl) C.2.2.2.2.1
  rw [dN_ok2 mi hm, hv] at hlink
  exact lv_ldc C.1 C.2.1 C.2.2.2.1 hlink d (k n0 p l e R s m args below meth c β D dA ad0 sa Qf C ad H locs cells slots ls ha hn hR hl hc hs)
theorem a_ldcf {i : Nat} {z : Nat} {v : UInt32} (q : (decide (mi < 152) && decide (decode (mB mi) pc = .ok (.ldc i, 2)) && (lks (mD mi)).contains (i, 6, z, 1)) = true) (hv : UInt32.ofNat z = v) (k : AW X mi (pc + 2) lv (.float v :: rest) h bc bs Q) : AW X mi pc lv rest h bc bs Q := by
  intro n0 p l e R s m args below meth c β D dA ad0 sa Qf C ad H locs cells slots ls ha hn hR hl hc hs
  simp only [Bool.and_eq_true, decide_eq_true_eq] at q
  obtain ⟨⟨hm, d⟩, hlk⟩ := q
  have hlink : (Cond.constantFloat (dN (mD mi)) i (UInt32.ofNat z)).before args s = true := lk_bef hm hlk (Nat.le_of_ble_eq_true rfl) C.2.2.2.2.1
  rw [dN_ok2 mi hm, hv] at hlink
  exact lv_ldcf C.1 C.2.1 C.2.2.2.1 hlink d (k n0 p l e R s m args below meth c β D dA ad0 sa Qf C ad H locs cells slots ls ha hn hR hl hc hs)
theorem a_ldc2 {i : Nat} {z : Nat} {v : Int64} (q : (decide (mi < 152) && decide (decode (mB mi) pc = .ok (.ldc2_w i, 3)) && (lks (mD mi)).contains (i, 7, z, 0)) = true) (hv : Int64.ofNat z = v) (k : AW X mi (pc + 3) lv (.long v :: rest) h bc bs Q) : AW X mi pc lv rest h bc bs Q := by
  intro n0 p l e R s m args below meth c β D dA ad0 sa Qf C ad H locs cells slots ls ha hn hR hl hc hs
  simp only [Bool.and_eq_true, decide_eq_true_eq] at q
  obtain ⟨⟨hm, d⟩, hlk⟩ := q
  have hlink : (Cond.constantLong (dN (mD mi)) i (Int64.ofNat z)).before args s = true := lk_bef hm hlk (Nat.le_of_ble_eq_true rfl) C.2.2.2.2.1
  rw [dN_ok2 mi hm, hv] at hlink
  exact lv_ldc2 C.1 C.2.1 C.2.2.2.1 hlink d (k n0 p l e R s m args below meth c β D dA ad0 sa Qf C ad H locs cells slots ls ha hn hR hl hc hs)
theorem a_ldc2d {i : Nat} {z : Nat} {v : UInt64} (q : (decide (mi < 152) && decide (decode (mB mi) pc = .ok (.ldc2_w i, 3)) && (lks (mD mi)).contains (i, 7, z, 1)) = true) (hv : UInt64.ofNat z = v) (k : AW X mi (pc + 3) lv (.double v :: rest) h bc bs Q) : AW X mi pc lv rest h bc bs Q := by
  intro n0 p l e R s m args below meth c β D dA ad0 sa Qf C ad H locs cells slots ls ha hn hR hl hc hs
  simp only [Bool.and_eq_true, decide_eq_true_eq] at q
  obtain ⟨⟨hm, d⟩, hlk⟩ := q
  have hlink : (Cond.constantDouble (dN (mD mi)) i (UInt64.ofNat z)).before args s = true := lk_bef hm hlk (Nat.le_of_ble_eq_true rfl) C.2.2.2.2.1
  rw [dN_ok2 mi hm, hv] at hlink
  exact lv_ldc2d C.1 C.2.1 C.2.2.2.1 hlink d (k n0 p l e R s m args below meth c β D dA ad0 sa Qf C ad H locs cells slots ls ha hn hR hl hc hs)
theorem a_iald {o n : Nat} {f : Nat → Int32} {i : Int32} (d : decode (mB mi) pc = .ok (.iaload, 1)) (ho : h[o]? = some (.inr (0, n, .inl f))) (hi : vp_in i n) (k : AW X mi (pc + 1) lv (.int (f i.toNatClampNeg) :: rest) h bc bs Q) : AW X mi pc lv (.int i :: .ref o :: rest) h bc bs Q :=
  fun n0 p l e R s m args below meth c β D dA ad0 sa Qf C ad H locs cells slots ls ha hn hR hl hc hs => va_iald C.1 C.2.1 C.2.2.2.2.2.2.1.1 hR.1 o 0 (cW_get ho) rfl hi d (k n0 p l e R s m args below meth c β D dA ad0 sa Qf C ad H locs cells slots ls ha hn hR hl hc hs)
theorem a_iast {o n : Nat} {f : Nat → Int32} {i : Int32} {x : Int32} (d : decode (mB mi) pc = .ok (.iastore, 1)) (ho : h[o]? = some (.inr (0, n, .inl f))) (hi : vp_in i n) (k : AW X mi (pc + 1) lv rest (h.set o (.inr (0, n, .inl (upd f i.toNatClampNeg x)))) bc bs Q) : AW X mi pc lv (.int x :: .int i :: .ref o :: rest) h bc bs Q := by
  intro n0 p l e R s m args below meth c β D dA ad0 sa Qf C ad H locs cells slots ls ha hn hR hl hc hs
  refine va_iast C.1 C.2.1 C.2.2.2.2.2.2.1.1 hR.1 hR.2.1 hR.2.2 o 0 (cW_get ho) rfl hi d (fun H1 locs1 hP1 hD1 hS1 => ?_)
  rw [show (cW dA ad h).set o (ad o, .inl (dA 0, n, .inl (upd f i.toNatClampNeg x))) = cW dA ad (h.set o (.inr (0, n, .inl (upd f i.toNatClampNeg x)))) from cW_set (c := .inr (0, n, .inl (upd f i.toNatClampNeg x)))] at hP1 hD1
  exact k n0 p l e R s m args below meth c β D dA ad0 sa Qf C ad H1 locs1 cells slots ls ha (by rw [List.length_set]; exact hn) ⟨hP1, hD1, hS1⟩ hl hc hs
theorem a_lald {o n : Nat} {f : Nat → Int64} {i : Int32} (d : decode (mB mi) pc = .ok (.laload, 1)) (ho : h[o]? = some (.inr (1, n, .inr (.inl f)))) (hi : vp_in i n) (k : AW X mi (pc + 1) lv (.long (f i.toNatClampNeg) :: rest) h bc bs Q) : AW X mi pc lv (.int i :: .ref o :: rest) h bc bs Q :=
  fun n0 p l e R s m args below meth c β D dA ad0 sa Qf C ad H locs cells slots ls ha hn hR hl hc hs => va_lald C.1 C.2.1 C.2.2.2.2.2.2.1.1 hR.1 o 1 (cW_get ho) rfl hi d (k n0 p l e R s m args below meth c β D dA ad0 sa Qf C ad H locs cells slots ls ha hn hR hl hc hs)
theorem a_last {o n : Nat} {f : Nat → Int64} {i : Int32} {x : Int64} (d : decode (mB mi) pc = .ok (.lastore, 1)) (ho : h[o]? = some (.inr (1, n, .inr (.inl f)))) (hi : vp_in i n) (k : AW X mi (pc + 1) lv rest (h.set o (.inr (1, n, .inr (.inl (vp_updL f i.toNatClampNeg x))))) bc bs Q) : AW X mi pc lv (.long x :: .int i :: .ref o :: rest) h bc bs Q := by
  intro n0 p l e R s m args below meth c β D dA ad0 sa Qf C ad H locs cells slots ls ha hn hR hl hc hs
  refine va_last C.1 C.2.1 C.2.2.2.2.2.2.1.1 hR.1 hR.2.1 hR.2.2 o 1 (cW_get ho) rfl hi d (fun H1 locs1 hP1 hD1 hS1 => ?_)
  rw [show (cW dA ad h).set o (ad o, .inl (dA 1, n, .inr (.inl (vp_updL f i.toNatClampNeg x)))) = cW dA ad (h.set o (.inr (1, n, .inr (.inl (vp_updL f i.toNatClampNeg x))))) from cW_set (c := .inr (1, n, .inr (.inl (vp_updL f i.toNatClampNeg x))))] at hP1 hD1
  exact k n0 p l e R s m args below meth c β D dA ad0 sa Qf C ad H1 locs1 cells slots ls ha (by rw [List.length_set]; exact hn) ⟨hP1, hD1, hS1⟩ hl hc hs
theorem a_alen {o t : Nat} {x : vp_A} {v : Int32} (d : decode (mB mi) pc = .ok (.arraylength, 1)) (ho : h[o]? = some (.inr (t, x))) (ht : t < 3) (hv : Int32.ofNat x.1 = v) (k : AW X mi (pc + 1) lv (.int v :: rest) h bc bs Q) : AW X mi pc lv (.ref o :: rest) h bc bs Q := by
  intro n0 p l e R s m args below meth c β D dA ad0 sa Qf C ad H locs cells slots ls ha hn hR hl hc hs
  refine va_alen C.1 C.2.1 C.2.2.2.2.2.2.1.1 hR.1 o t (cW_get ho) (ty := aty t) (by rcases (show t = 0 ∨ t = 1 ∨ t = 2 by omega) with rfl | rfl | rfl <;> rfl) hv d ?_
  exact k n0 p l e R s m args below meth c β D dA ad0 sa Qf C ad H locs cells slots ls ha hn hR hl hc hs
/-- the static arrays and the script -/
theorem a_iald_ro {o j : Nat} {i : Int32} (d : decode (mB mi) pc = .ok (.iaload, 1)) (ho : o = 1000 + j) (hj : j = 1 ∨ j = 2 ∨ j = 3) (hi : vp_in i (roT X j).2.1) (k : AW X mi (pc + 1) lv (.int ((roT X j).2.2 i.toNatClampNeg) :: rest) h bc bs Q) : AW X mi pc lv (.int i :: .ref o :: rest) h bc bs Q := by
  intro n0 p l e R s m args below meth c β D dA ad0 sa Qf C ad H locs cells slots ls ha hn hR hl hc hs
  subst ho
  have hT := C.2.2.2.2.2.2.1.2.1 j (by omega)
  rw [← ha.2 _ (Or.inr (by omega) : 1000 + j < n0 ∨ 1000 ≤ 1000 + j)] at hT
  have hty : (roT X j).1 = .int := by rcases hj with rfl | rfl | rfl <;> rfl
  rw [hty] at hT
  refine va_ti C.1 C.2.1 hT hR.2.2 hi rfl d ?_
  exact k n0 p l e R s m args below meth c β D dA ad0 sa Qf C ad H locs cells slots ls ha hn hR hl hc hs
theorem a_cald_ro {i : Int32} (d : decode (mB mi) pc = .ok (.caload, 1)) (hi : vp_in i 3) (k : AW X mi (pc + 1) lv (.int (ro_m i.toNatClampNeg) :: rest) h bc bs Q) : AW X mi pc lv (.int i :: .ref 1000 :: rest) h bc bs Q := by
  intro n0 p l e R s m args below meth c β D dA ad0 sa Qf C ad H locs cells slots ls ha hn hR hl hc hs
  have hT := C.2.2.2.2.2.2.1.2.1 0 (by omega)
  rw [← ha.2 _ (Or.inr (by omega) : 1000 + 0 < n0 ∨ 1000 ≤ 1000 + 0)] at hT
  refine va_tc C.1 C.2.1 hT hR.2.2 hi rfl d ?_
  exact k n0 p l e R s m args below meth c β D dA ad0 sa Qf C ad H locs cells slots ls ha hn hR hl hc hs
theorem a_alen_ro {o j : Nat} {v : Int32} (d : decode (mB mi) pc = .ok (.arraylength, 1)) (ho : o = 1000 + j) (hj : j < 4) (hv : Int32.ofNat (roT X j).2.1 = v) (k : AW X mi (pc + 1) lv (.int v :: rest) h bc bs Q) : AW X mi pc lv (.ref o :: rest) h bc bs Q := by
  intro n0 p l e R s m args below meth c β D dA ad0 sa Qf C ad H locs cells slots ls ha hn hR hl hc hs
  subst ho
  have hT := C.2.2.2.2.2.2.1.2.1 j hj
  rw [← ha.2 _ (Or.inr (by omega) : 1000 + j < n0 ∨ 1000 ≤ 1000 + j)] at hT
  refine va_tlen C.1 C.2.1 hT hR.2.2 hv d ?_
  exact k n0 p l e R s m args below meth c β D dA ad0 sa Qf C ad H locs cells slots ls ha hn hR hl hc hs
end HEAP
end
section
/-! ===== BEGIN a constructor that throws (launches without stack traces) ===== -/
section VXIA
variable {p : Program} {l : Launch} {e : Env} {R : Room} {s : State} {m : MethodId} {args : Array Value} {below : List Frame} {meth : Method} {c : Code} {T : State} {locs : List Loc} {cells slots : Nat}
theorem vx_callI (X : Stand p l e R s m args below meth c T locs cells slots) (hexec : p.tables.exec = Jvm.exec) {own : String} {index : Nat} {y : MethodName} {bytes : ByteArray} {maxL : Nat}
    (hown : s.vm.findClass own = some m.cls) (hy1 : y.name = "<init>") (hlink : (Cond.methodLink own index y).before args s = true) (hinst : (Cond.instanceMethod y).before args s = true)
    (hcode : (Cond.code y bytes maxL none).before args s = true) (hy : y.cls ≠ "java/lang/invoke/MethodHandle" ∧ y.cls ≠ "java/lang/invoke/VarHandle")
    {W9 : Nat} {Pre : Pt → Array Value → Prop} {Post : Pt → Array Value → Option Value → Pt → Prop} {PostX : Pt → Array Value → Addr → Pt → Prop} (hK : vx_Back l R p e below s args y 3 W9 Pre Post PostX)
    {g : JFrame} (hg : g.method = m) (hsize : g.locals.size = c.maxLocals) {a : Addr} {argsL rest : List Value} (hlen : ∀ sig, parseMethodDescriptor y.desc = some sig → argsL.length = sig.parameters.length)
    (hstack : g.stack = argsL.reverse ++ .ref a :: rest) (hW : 2 * g.monitorRoom + (rest.map fun v => v.category).sum ≤ W9) (hdg : decode c.code g.pc = .ok (.invokespecial index, 3))
    (hpre : ∀ vm₁, s.WarmedH vm₁ → Pre ⟨T.setVm vm₁, locs, cells, slots⟩ (Value.ref a :: argsL).toArray) :
    (∃ (v : Option Value) (vm₁ : Vm) (B : Pt), s.WarmedH vm₁ ∧ Stand p l e R s m args below meth c B.U B.locs B.cells B.slots ∧ Post ⟨T.setVm vm₁, locs, cells, slots⟩ (Value.ref a :: argsL).toArray v B ∧
      ∀ target, Steps p.tables e below (B.U.setTop { g with pc := g.pc + 3, stack := v.toList ++ rest }) target → Steps p.tables e below (T.setTop g) target) ∨
    (∃ (q : Addr) (vm₁ : Vm) (B : Pt), s.WarmedH vm₁ ∧ Stand p l e R s m args below meth c B.U B.locs B.cells B.slots ∧ PostX ⟨T.setVm vm₁, locs, cells, slots⟩ (Value.ref a :: argsL).toArray q B ∧
      Steps p.tables e below (T.setTop g) ((B.U.setTop { g with stack := rest }).pushFrame (.throwing q))) := by
  subst hg
  have hpl : e.platform.magicAccessors = ({} : Platform).magicAccessors := by rw [X.admits.platform]
  obtain ⟨mk, methM, cM, kP, vm₁, hnamed, hmethM, hcodeM, -, hlocalsM, -, hkP, -, hW₁, hstep₁⟩ := Steps.initColdArgs (e := e) X.here hexec X.warmed hpl hown hy1 hy hlink hinst hcode (f := g) rfl hlen hstack hdg
  have X₁ := X.noted hW₁
  rcases hK g.method meth c ⟨T.setVm vm₁, locs, cells, slots⟩ { g with stack := rest } (.invokespecial index) mk (Value.ref a :: argsL).toArray X₁ rfl hsize hdg hW (X₁.named hnamed) (hpre vm₁ X₁.warmed) with ⟨v, B, X', hpost, hsteps⟩ | ⟨q, B, X', hpost, hsteps⟩
  · exact Or.inl ⟨v, vm₁, B, X₁.warmed, X', hpost, fun target h => hstep₁ _ fun acts => by rw [doInvoke_state]; exact hsteps.trans h⟩
  · exact Or.inr ⟨q, vm₁, B, X₁.warmed, X', hpost, hstep₁ _ fun acts => by rw [doInvoke_state]; exact hsteps⟩
end VXIA
section VXIB
variable {p : Program} {l : Launch} {e : Env} {R : Room} {s : State} {m : MethodId} {args : Array Value} {below : List Frame} {meth : Method} {c : Code} {H : Heap} {locs : List Loc} {cells slots : Nat}
variable {y : MethodName} {bytes cc : ByteArray} {maxL nL mc ms n index : Nat} {ret : Option FieldType} {ws : List Cond} {rm : Room} {Pc : Array Value → State → Prop} {Qc : Array Value → State → Outcome → State → Prop} {XC : String → State → State → Prop} {free : Addr → Prop} {Ts : List Cond} {own C : String} {b : Addr} {As rest : List Value} {g : JFrame}
theorem vx_runI (S : CallFix p m c cc nL s args Ts own) (hM : vx_Met l y ws rm Pc Qc XC mc ms free) (cw : CallB R s args own index y bytes maxL none ws rm mc ms n ∧ y.name = "<init>" ∧ (Cond.instanceMethod y).before args s = true) (hp : PreS s H Pc (.ref b :: As))
    (hg : g.method = m) (hn : As.length = n) (hsize : g.locals.size = nL) (hstack : g.stack = As.reverse ++ .ref b :: rest) (hW : 2 * g.monitorRoom + (rest.map fun v => v.category).sum ≤ 8) (hdg : decode cc g.pc = .ok (.invokespecial index, 3)) (hf : cells + mc ≤ R.cells ∧ slots + ms ≤ R.slots) :
    vx_Run p l e R s m args below meth c H locs cells slots mc ms g rest (Qc (Value.ref b :: As).toArray) XC free := by
  have hK : vx_Back l R p e below s args y 3 8 (PreOf R mc ms Pc) (PostOf Qc mc ms free) (vx_Post XC mc ms free) := vx_callBack cw.1 hM hp.1
  obtain ⟨⟨-, -, -, -, -, -, hcode, -, hy, hlen, hl⟩, hy1, hin⟩ := cw
  obtain ⟨hx, hb, hml, ho, -⟩ := S
  have hPc := hp.2
  intro T hT X
  rcases vx_callI X hx (bytes := bytes) (maxL := maxL) ho hy1 hl hin hcode hy hK hg (hsize.trans hml.symm) (a := b) (argsL := As) (rest := rest) (fun sig h => hn.trans (hlen sig h)) hstack hW (by rw [hb]; exact hdg)
    (fun vm₁ hW₁ => ⟨hf.1, hf.2, hPc (T.setVm vm₁) hT hW₁⟩) with ⟨v, vm₁, ⟨U', l2, c2, s2⟩, hW₁, X', ⟨g', mk, t, L, e1, e2, hq, h1, hL, h2, h3⟩, st⟩ | ⟨q, vm₁, ⟨U', l2, c2, s2⟩, hW₁, X', ⟨g', mk, t, L, E, ce, e1, e2, hq, hce, hcv, hcl, h1, hL, h2, h3⟩, st⟩
  · dsimp only [Pt.U, Pt.locs, Pt.cells, Pt.slots] at X' e1 e2 h1 h2 h3 st
    subst h1; subst h2; subst h3
    exact Or.inl ⟨v, (T.setVm vm₁).calling g' mk (Value.ref b :: As).toArray, t, U', L, hT, X', hL, e1, e2, hq, st⟩
  · dsimp only [Pt.U, Pt.locs, Pt.cells, Pt.slots] at X' e1 e2 h1 h2 h3 st hcl
    subst h1; subst h2; subst h3
    exact Or.inr ⟨q, (T.setVm vm₁).calling g' mk (Value.ref b :: As).toArray, t, U', L, E, ce, hT, X', hL, e1, e2, hq, hce, hcv, vx_cls hW₁ hcl, st⟩
end VXIB
/-! ===== END ===== -/
/-! calls, and a method's contract out of its walk -/
def wfv (n : Nat) (v : Value) : Bool := match v with
  | .ref k => Nat.ble (k + 1) n || Nat.ble 1000 k
  | _ => true
theorem wfv_tv {n : Nat} {v : Value} {ad ad' : Nat → Nat} (h : wfv n v = true) (e : ∀ k, (k < n ∨ 1000 ≤ k) → ad' k = ad k) : tv ad' v = tv ad v := by
  cases v with
  | ref k =>
    simp only [wfv, Bool.or_eq_true] at h
    show Value.ref (ad' k) = Value.ref (ad k)
    rw [e k]
    rcases h with h | h
    · exact Or.inl (Nat.le_of_ble_eq_true h)
    · exact Or.inr (Nat.le_of_ble_eq_true h)
  | _ => rfl
theorem wfl_tl {n : Nat} {lv : List (Nat × Value)} {ad ad' : Nat → Nat} (h : lv.all (fun q => wfv n q.2) = true) (e : ∀ k, (k < n ∨ 1000 ≤ k) → ad' k = ad k) : tl ad' lv = tl ad lv := by
  refine List.map_congr_left (fun q hq => ?_)
  rw [wfv_tv (List.all_eq_true.mp h q hq) e]
theorem wfs_tv {n : Nat} {st : List Value} {ad ad' : Nat → Nat} (h : st.all (wfv n) = true) (e : ∀ k, (k < n ∨ 1000 ≤ k) → ad' k = ad k) : st.map (tv ad') = st.map (tv ad) :=
  List.map_congr_left (fun q hq => wfv_tv (List.all_eq_true.mp h q hq) e)
def wfc (n : Nat) (c : AC) : Bool := match c with
  | .inl o => o.2.all (wfv n)
  | .inr _ => true
theorem wfc_cE {n : Nat} {c : AC} {dA : Nat → ClassId} {ad ad' : Nat → Nat} (h : wfc n c = true) (e : ∀ k, (k < n ∨ 1000 ≤ k) → ad' k = ad k) : cE dA ad' c = cE dA ad c := by
  cases c with
  | inl o => simp only [cE]; rw [wfs_tv h e]
  | inr a => rfl
theorem wfh_cW {h : AH} {dA : Nat → ClassId} {ad ad' : Nat → Nat} (hw : h.all (wfc h.length) = true) (e : ∀ k, (k < h.length ∨ 1000 ≤ k) → ad' k = ad k) : cW dA ad' h = cW dA ad h := by
  apply List.ext_getElem?
  intro i
  simp only [cW, List.getElem?_mapIdx]
  cases hi : h[i]? with
  | none => rfl
  | some c =>
    have hl : i < h.length := (List.getElem?_eq_some_iff.mp hi).1
    simp only [Option.map_some]
    rw [e i (Or.inl hl), wfc_cE (List.all_eq_true.mp hw c (List.mem_of_getElem? hi)) e]
def CK (X : XS) (mi pc : Nat) (lv : List (Nat × Value)) (rest : List Value) (bc bs : Nat) (Q : AO → AH → Prop) (o : AO) (h : AH) : Prop := match o with
  | .inl none => AW X mi (pc + 3) lv rest h bc bs Q
  | .inl (some v) => AW X mi (pc + 3) lv (v :: rest) h bc bs Q
  | .inr en => mH mi = [] ∧ Q (.inr en) h
theorem mW_code {mj : Nat} (h : mH mj = []) : mW mj = .code (mY mj) (mB mj) (mL mj) (mR mj) := by unfold mW; rw [if_pos h]
theorem mW_with {mj : Nat} (h : ¬ mH mj = []) : mW mj = .codeWith (mY mj) (mB mj) (mL mj) (mR mj) (mH mj) := by unfold mW; rw [if_neg h]
theorem mW_good {mj : Nat} (hj : mj < 151) : GoodIn XU (mW mj :: XU) := GoodIn_XU fun w hw => by
  rcases List.mem_cons.mp hw with rfl | hw
  · exact (yw mj hj).2.1
  · exact hw
theorem CP_blind {X : XS} {β : Nat} {D : va_G} {dA : Nat → ClassId} {ad sa : Nat → Nat} {h : AH} {as : List Value} : FrameBlind (va_Pc as (CP X β D dA ad sa h)) := by
  intro a U g mk q
  obtain ⟨e, hsw, hb, hP, hD⟩ := q
  exact ⟨e, SW.warm (u := U) (U := U.calling g mk a) hsw (State.WarmedH.refl U) (fun _ _ _ => rfl), hb, hP, hD⟩
section RUN
variable {X : XS} {mi mj pc : Nat} {lv : List (Nat × Value)} {rest : List Value} {h : AH} {bc bs : Nat} {Q : AO → AH → Prop} {n0 : Nat} {p : Program} {l : Launch} {e : Env} {R : Room} {s : State} {m : MethodId} {args : Array Value} {below : List Frame} {meth : Method} {c : Code} {β : Nat} {D : va_G} {dA : Nat → ClassId} {ad0 sa : Nat → Nat} {Qf : State → Prop}
theorem CP_at (C : Cx X mi Q n0 p l e R s m args below meth c β D dA ad0 sa Qf) {ad : Nat → Nat} {H : Heap} {locs : List Loc} (ha : adOk mi n0 ad0 ad) (hR : HR D dA β ad h s.heap H locs) (U : State) (hU : U.heap = H) (hW : s.WarmedH U.vm) : CP X β D dA ad sa h U :=
  ⟨by rw [hU]; exact ((C.2.2.2.2.2.2.1.warm hW (fun a h1 h2 => hR.2.2.2.1 a h1 h2)).ad (fun k hk => ha.2 k (Or.inr hk))), by rw [hU]; exact Nat.le_trans C.2.2.2.2.2.2.2.1 hR.2.2.1, by rw [hU]; exact hR.1, hR.2.1⟩
/-- behind a call -/
theorem run_go (C : Cx X mi Q n0 p l e R s m args below meth c β D dA ad0 sa Qf) {ad : Nat → Nat} {H : Heap} {locs : List Loc} {cells slots : Nat} {ls : Array Slot} {st0 : List Value} {a : Array Value} (ha : adOk mi n0 ad0 ad) (hn : n0 ≤ h.length) (hR : HR D dA β ad h s.heap H locs) (hl : lv_has ls (mL mi) (tl ad lv)) (hc : cells + bc ≤ R.cells) (hs : slots + bs ≤ R.slots) (hb : mC mj ≤ bc ∧ mS mj ≤ bs)
    (hA : mA mj = 0 ∨ (mA mi = 1 ∧ lv.all (fun q => wfv h.length q.2) = true ∧ rest.all (wfv h.length) = true))
    (hr : vx_Run p l e R s m args below meth c H locs cells slots (mC mj) (mS mj) (F0 m pc ls st0) (rest.map (tv ad)) (CQ mj h.length β D dA ad (CK X mi pc lv rest (bc - mC mj) (bs - mS mj) Q) a) (CX mj h.length β D dA ad (CK X mi pc lv rest (bc - mC mj) (bs - mS mj) Q)) (fun q : Nat => β ≤ q)) :
    W p l e R s m args below meth c H locs cells slots Qf (F0 m pc ls st0) := by
  intro T hT Y
  have key : ∀ (ad' : Nat → Nat), adOk mj h.length ad ad' → ∀ (h' : AH), h.length ≤ h'.length → adOk mi n0 ad0 ad' ∧ n0 ≤ h'.length ∧ tl ad' lv = tl ad lv ∧ rest.map (tv ad') = rest.map (tv ad) := by
    intro ad' hk h' hlen
    rcases hA with hA | ⟨h1, h2, h3⟩
    · have e := hk.1 hA
      subst e
      exact ⟨ha, Nat.le_trans hn hlen, rfl, rfl⟩
    · exact ⟨⟨fun z => absurd (h1.symm.trans z) (by decide), fun k hk' => (hk.2 k (hk'.imp (fun y => Nat.lt_of_lt_of_le y hn) id)).trans (ha.2 k hk')⟩, Nat.le_trans hn hlen, wfl_tl h2 hk.2, wfs_tv h3 hk.2⟩
  rcases hr T hT Y with ⟨v, st₀, t, T', L, h0, Y', hL, e1, e2, ⟨⟨v', h', ad', hv, hQ, hadk, hlen', hP', hD'⟩, hF⟩, st⟩ | ⟨q, st₀, t, T', L, E, ce, h0, Y', hL, e1, e2, ⟨⟨en, h', ad', hE, hQ, hadk, hlen', hP', hD'⟩, hF⟩, hce, hcv, hcl, st⟩
  · obtain ⟨k1, k2, k3⟩ := vx_keep h0 e1 hR.2.2 (fun _ _ z => z) (fun _ z => z) hL hF
    obtain ⟨g1, g2, g3, g4⟩ := key ad' hadk h' hlen'
    have hR' : HR D dA β ad' h' s.heap T'.heap (locs ++ L) := ⟨by rw [e1]; exact hP', hD', k3⟩
    cases v' with
    | none =>
      cases hv
      have k : AW X mi (pc + 3) lv rest h' (bc - mC mj) (bs - mS mj) Q := hQ
      obtain ⟨t2, a1, b1⟩ := k n0 p l e R s m args below meth c β D dA ad0 sa Qf C ad' T'.heap (locs ++ L) (cells + mC mj) (slots + mS mj) ls g1 g2 hR' (by rw [g3]; exact hl) (by omega) (by omega) T' rfl Y'
      rw [g4] at a1
      exact ⟨t2, st t2 a1, b1⟩
    | some v1 =>
      cases hv
      have k : AW X mi (pc + 3) lv (v1 :: rest) h' (bc - mC mj) (bs - mS mj) Q := hQ
      obtain ⟨t2, a1, b1⟩ := k n0 p l e R s m args below meth c β D dA ad0 sa Qf C ad' T'.heap (locs ++ L) (cells + mC mj) (slots + mS mj) ls g1 g2 hR' (by rw [g3]; exact hl) (by omega) (by omega) T' rfl Y'
      rw [List.map_cons, g4] at a1
      exact ⟨t2, st t2 a1, b1⟩
  · obtain ⟨k1, k2, k3⟩ := vx_keep h0 e1 hR.2.2 (fun _ _ z => z) (fun _ z => z) hL hF
    obtain ⟨g1, g2, g3, g4⟩ := key ad' hadk h' hlen'
    obtain ⟨hmH, hQ⟩ : mH mi = [] ∧ Q (.inr en) h' := hQ
    obtain ⟨t2, a1, b1⟩ := C.2.2.2.2.2.2.2.2.2.2.2.2.1 en h' ad' T'.heap (locs ++ L) (cells + mC mj) (slots + mS mj) pc ls (rest.map (tv ad)) q ce hQ hmH g1 g2 ⟨by rw [e1]; exact hP', hD', k3⟩ (by omega) (by omega) (by rw [e1]; exact hce) hcv (by rw [← hE]; exact hcl) T' rfl Y'
    exact ⟨t2, st.trans a1, b1⟩
end RUN
def cfB (mi pc i mj k nest n : Nat) : Bool := decide (mi < 152) && decide (mj < 151) && decide (decode (mB mi) pc = .ok ((if k = 0 then .invokestatic i else if k = 1 then .invokevirtual i else .invokespecial i), 3)) && (lks (mD mi)).contains (i, nest, mj, 0) && decide (mK mj = k) && decide (mN mj = n) && decide (mV mj + 1 ≤ mV mi) && decide (mH mj = []) && decide (nest = 4 ∨ (nest = 9 ∧ k = 0))
theorem room_ok {R : Room} {mi mj : Nat} (hj : mj < 151) (hv : mV mj + 1 ≤ mV mi) (hR : mV mi ≤ R.frames ∧ 64 * mV mi ≤ R.locals) : (mRm mj).frames + 1 ≤ R.frames ∧ 8 + (mL mj + 11) + (mRm mj).locals ≤ R.locals := by
  have h1 := (yw mj hj).1
  simp only [yb, Bool.and_eq_true, decide_eq_true_eq] at h1
  have h2 : mL mj + 19 ≤ 64 := h1.1.2
  simp only [mRm]
  omega
theorem desc_ok {mj n : Nat} (hj : mj < 151) (hn : mN mj = n) : (mY mj).cls ≠ "java/lang/invoke/MethodHandle" ∧ (mY mj).cls ≠ "java/lang/invoke/VarHandle" ∧ (parseMethodDescriptor (mY mj).desc).map (fun d => d.parameters.length) = some n := by
  have h1 := (yw mj hj).1
  simp only [yb, Bool.and_eq_true, decide_eq_true_eq] at h1
  rw [← hn]
  exact ⟨h1.1.1.1.1.1.2, h1.1.1.1.1.2, h1.1.1.1.2⟩
section CALLS
variable {X : XS} {mi mj pc i n : Nat} {lv : List (Nat × Value)} {rest : List Value} {h : AH} {bc bs : Nat} {Q : AO → AH → Prop} {as : List Value}
theorem a_callS {nest : Nat} (q : cfB mi pc i mj 0 nest n = true) (hn' : as.length = n) (hw : Nat.ble (rest.map fun v => v.category).sum 8 = true) (hb : Nat.ble (mC mj) bc = true ∧ Nat.ble (mS mj) bs = true)
    (hA : mA mj = 0 ∨ (mA mi = 1 ∧ lv.all (fun q => wfv h.length q.2) = true ∧ rest.all (wfv h.length) = true))
    (k : Call X mj as h (CK X mi pc lv rest (bc - mC mj) (bs - mS mj) Q)) : AW X mi pc lv (as.reverse ++ rest) h bc bs Q := by
  intro n0 p l e R s m args below meth c β D dA ad0 sa Qf C ad H locs cells slots ls ha hn hR hl hc hs
  simp only [cfB, Bool.and_eq_true, decide_eq_true_eq] at q
  obtain ⟨⟨⟨⟨⟨⟨⟨⟨hm, hj⟩, d⟩, hlk⟩, hkd⟩, hnn⟩, hv⟩, hH⟩, hne⟩ := q
  have hts := C.2.2.2.2.1
  obtain ⟨-, hy2, hy3, hy4⟩ := yw mj hj
  have hstt : (Cond.static (mY mj)).before args s = true := by
    unfold yw_k at hy4
    rw [hkd] at hy4
    exact hts _ hy4
  have hrm := room_ok (R := R) hj hv C.2.2.2.2.2.2.2.2.2.1
  have hM := k l β D dA ad sa C.2.2.2.2.2.1
  have hstk : List.map (tv ad) (as.reverse ++ rest) = (as.map (tv ad)).reverse ++ rest.map (tv ad) := by rw [List.map_append, List.map_reverse]
  rw [hstk]
  refine run_go C ha hn hR hl hc hs ⟨Nat.le_of_ble_eq_true hb.1, Nat.le_of_ble_eq_true hb.2⟩ hA (a := (as.map (tv ad)).toArray) ?_
  have hp : PreS s H (va_Pc (as.map (tv ad)) (CP X β D dA ad sa h)) (as.map (tv ad)) := ⟨CP_blind, fun U hU hW => ⟨rfl, CP_at C ha hR U hU hW⟩⟩
  have hrest : ((rest.map (tv ad)).map fun v => v.category).sum ≤ 8 := by
    rw [List.map_map]
    have := Nat.le_of_ble_eq_true hw
    simpa [Function.comp_def, tv_cat] using this
  have hf : cells + mC mj ≤ R.cells ∧ slots + mS mj ≤ R.slots := ⟨by have := Nat.le_of_ble_eq_true hb.1; omega, by have := Nat.le_of_ble_eq_true hb.2; omega⟩
  rcases hne with rfl | ⟨rfl, -⟩
  · have hlink := lk_bef hm hlk (Nat.le_of_ble_eq_true rfl) hts
    simp only [lkw] at hlink
    rw [dN_ok2 mi hm] at hlink
    exact vx_runS ⟨C.1, C.2.1, C.2.2.1, C.2.2.2.1, hts⟩ hM ⟨callB_of n hts (mW_good hj) (by rw [mW_code hH]) rfl rfl (hts _ hy3) hlink (desc_ok hj hnn) hrm, hstt⟩ hp rfl (by rw [List.length_map]; exact hn') hl.1 rfl (lv_room hrest) d hf
  · have hin := nst_in (mD mi) (i, 9, mj, 0) (by simpa using hlk) (Or.inr rfl)
    have hlink := C.2.2.2.2.2.2.1.2.2.2.2.2.2.1 _ hin
    simp only [lkw] at hlink
    rw [dN_ok2 mi hm] at hlink
    exact vx_runSN ⟨C.1, C.2.1, C.2.2.1, C.2.2.2.1, hts⟩ hM ⟨va_cnB n hts (mW_good hj) (by rw [mW_code hH]) rfl rfl hlink (hts _ hy3) (desc_ok hj hnn) hrm, hstt, trivial⟩ hp rfl (by rw [List.length_map]; exact hn') hl.1 rfl (lv_room hrest) d hf
theorem a_callV {o : Nat} {fs : List Value} (q : cfB mi pc i mj 1 4 n = true) (hn' : as.length = n) (ho : h[o]? = some (.inl (mO mj, fs))) (hw : Nat.ble (rest.map fun v => v.category).sum 8 = true) (hb : Nat.ble (mC mj) bc = true ∧ Nat.ble (mS mj) bs = true)
    (hA : mA mj = 0 ∨ (mA mi = 1 ∧ lv.all (fun q => wfv h.length q.2) = true ∧ rest.all (wfv h.length) = true))
    (k : Call X mj (.ref o :: as) h (CK X mi pc lv rest (bc - mC mj) (bs - mS mj) Q)) : AW X mi pc lv (as.reverse ++ .ref o :: rest) h bc bs Q := by
  intro n0 p l e R s m args below meth c β D dA ad0 sa Qf C ad H locs cells slots ls ha hn hR hl hc hs
  simp only [cfB, Bool.and_eq_true, decide_eq_true_eq] at q
  obtain ⟨⟨⟨⟨⟨⟨⟨⟨hm, hj⟩, d⟩, hlk⟩, hkd⟩, hnn⟩, hv⟩, hH⟩, hne⟩ := q
  have hts := C.2.2.2.2.1
  obtain ⟨-, hy2, hy3, hy4⟩ := yw mj hj
  have hy5 : Cond.instanceMethod (mY mj) ∈ XU ∧ Cond.selects (mY mj).cls (mY mj) (mY mj) ∈ XU ∧ (kC (mO mj)).1 = (mY mj).cls ∧ mO mj < 8 := by
    unfold yw_k at hy4
    rw [hkd] at hy4
    exact hy4
  obtain ⟨hi1, hi2, hi3, hi4⟩ := hy5
  have hrm := room_ok (R := R) hj hv C.2.2.2.2.2.2.2.2.2.1
  have hM := k l β D dA ad sa C.2.2.2.2.2.1
  have hstk : List.map (tv ad) (as.reverse ++ .ref o :: rest) = (as.map (tv ad)).reverse ++ .ref (ad o) :: rest.map (tv ad) := by rw [List.map_append, List.map_reverse, List.map_cons]; rfl
  rw [hstk]
  refine run_go C ha hn hR hl hc hs ⟨Nat.le_of_ble_eq_true hb.1, Nat.le_of_ble_eq_true hb.2⟩ hA (a := (Value.ref (ad o) :: as.map (tv ad)).toArray) ?_
  have hrv := va_recv C.2.2.2.2.2.2.1.1 hR.1 (kok (mO mj) hi4).1 (cW_get ho)
  rw [hi3] at hrv
  have hp : PreV s H (mY mj).cls (ad o) (va_Pc ((Value.ref o :: as).map (tv ad)) (CP X β D dA ad sa h)) (as.map (tv ad)) := ⟨CP_blind, hrv, fun U hU hW => ⟨rfl, CP_at C ha hR U hU hW⟩⟩
  have hrest : ((rest.map (tv ad)).map fun v => v.category).sum ≤ 8 := by
    rw [List.map_map]
    have := Nat.le_of_ble_eq_true hw
    simpa [Function.comp_def, tv_cat] using this
  have hf : cells + mC mj ≤ R.cells ∧ slots + mS mj ≤ R.slots := ⟨by have := Nat.le_of_ble_eq_true hb.1; omega, by have := Nat.le_of_ble_eq_true hb.2; omega⟩
  have hlink := lk_bef hm hlk (Nat.le_of_ble_eq_true rfl) hts
  simp only [lkw] at hlink
  rw [dN_ok2 mi hm] at hlink
  exact vx_runV ⟨C.1, C.2.1, C.2.2.1, C.2.2.2.1, hts⟩ hM ⟨callB_of n hts (mW_good hj) (by rw [mW_code hH]) rfl rfl (hts _ hy3) hlink (desc_ok hj hnn) hrm, hts _ hi1, hts _ hi2⟩ hp rfl (by rw [List.length_map]; exact hn') hl.1 rfl (lv_room hrest) d hf
theorem a_callI {o : Nat} (q : cfB mi pc i mj 2 4 n = true) (hn' : as.length = n) (hw : Nat.ble (rest.map fun v => v.category).sum 8 = true) (hb : Nat.ble (mC mj) bc = true ∧ Nat.ble (mS mj) bs = true)
    (hA : mA mj = 0 ∨ (mA mi = 1 ∧ lv.all (fun q => wfv h.length q.2) = true ∧ rest.all (wfv h.length) = true))
    (k : Call X mj (.ref o :: as) h (CK X mi pc lv rest (bc - mC mj) (bs - mS mj) Q)) : AW X mi pc lv (as.reverse ++ .ref o :: rest) h bc bs Q := by
  intro n0 p l e R s m args below meth c β D dA ad0 sa Qf C ad H locs cells slots ls ha hn hR hl hc hs
  simp only [cfB, Bool.and_eq_true, decide_eq_true_eq] at q
  obtain ⟨⟨⟨⟨⟨⟨⟨⟨hm, hj⟩, d⟩, hlk⟩, hkd⟩, hnn⟩, hv⟩, hH⟩, hne⟩ := q
  have hts := C.2.2.2.2.1
  obtain ⟨-, hy2, hy3, hy4⟩ := yw mj hj
  have hy5 : Cond.instanceMethod (mY mj) ∈ XU ∧ (mY mj).name = "<init>" ∧ mR mj = none := by
    unfold yw_k at hy4
    rw [hkd] at hy4
    exact hy4
  obtain ⟨hi1, hi2, hi3⟩ := hy5
  have hrm := room_ok (R := R) hj hv C.2.2.2.2.2.2.2.2.2.1
  have hM := k l β D dA ad sa C.2.2.2.2.2.1
  have hstk : List.map (tv ad) (as.reverse ++ .ref o :: rest) = (as.map (tv ad)).reverse ++ .ref (ad o) :: rest.map (tv ad) := by rw [List.map_append, List.map_reverse, List.map_cons]; rfl
  rw [hstk]
  refine run_go C ha hn hR hl hc hs ⟨Nat.le_of_ble_eq_true hb.1, Nat.le_of_ble_eq_true hb.2⟩ hA (a := (Value.ref (ad o) :: as.map (tv ad)).toArray) ?_
  have hp : PreS s H (va_Pc ((Value.ref o :: as).map (tv ad)) (CP X β D dA ad sa h)) (.ref (ad o) :: as.map (tv ad)) := ⟨CP_blind, fun U hU hW => ⟨rfl, CP_at C ha hR U hU hW⟩⟩
  have hrest : ((rest.map (tv ad)).map fun v => v.category).sum ≤ 8 := by
    rw [List.map_map]
    have := Nat.le_of_ble_eq_true hw
    simpa [Function.comp_def, tv_cat] using this
  have hf : cells + mC mj ≤ R.cells ∧ slots + mS mj ≤ R.slots := ⟨by have := Nat.le_of_ble_eq_true hb.1; omega, by have := Nat.le_of_ble_eq_true hb.2; omega⟩
  have hlink := lk_bef hm hlk (Nat.le_of_ble_eq_true rfl) hts
  simp only [lkw] at hlink
  rw [dN_ok2 mi hm] at hlink
  exact vx_runI ⟨C.1, C.2.1, C.2.2.1, C.2.2.2.1, hts⟩ hM ⟨callB_of n hts (mW_good hj) (by rw [mW_code hH, hi3]) rfl rfl (hts _ hy3) hlink (desc_ok hj hnn) hrm, hi2, hts _ hi1⟩ hp rfl (by rw [List.length_map]; exact hn') hl.1 rfl (lv_room hrest) d hf
end CALLS
section CALLN
variable {X : XS} {mi mj pc i : Nat} {lv : List (Nat × Value)} {rest : List Value} {h : AH} {bc bs : Nat} {Q : AO → AH → Prop}
theorem a_cs0 {nest : Nat} (q : cfB mi pc i mj 0 nest 0 = true) (hw : Nat.ble (rest.map fun v => v.category).sum 8 = true) (hb : Nat.ble (mC mj) bc = true ∧ Nat.ble (mS mj) bs = true) (hA : mA mj = 0) (k : Call X mj [] h (CK X mi pc lv rest (bc - mC mj) (bs - mS mj) Q)) : AW X mi pc lv (rest) h bc bs Q := a_callS (as := []) q rfl hw hb (Or.inl hA) k
theorem a_cv0 {o : Nat} {fs : List Value} (q : cfB mi pc i mj 1 4 0 = true) (ho : h[o]? = some (.inl (mO mj, fs))) (hw : Nat.ble (rest.map fun v => v.category).sum 8 = true) (hb : Nat.ble (mC mj) bc = true ∧ Nat.ble (mS mj) bs = true) (hA : mA mj = 0) (k : Call X mj (.ref o :: []) h (CK X mi pc lv rest (bc - mC mj) (bs - mS mj) Q)) : AW X mi pc lv (.ref o :: rest) h bc bs Q := a_callV (as := []) q rfl ho hw hb (Or.inl hA) k
theorem a_cs1 {nest : Nat} {v1 : Value} (q : cfB mi pc i mj 0 nest 1 = true) (hw : Nat.ble (rest.map fun v => v.category).sum 8 = true) (hb : Nat.ble (mC mj) bc = true ∧ Nat.ble (mS mj) bs = true) (hA : mA mj = 0) (k : Call X mj [v1] h (CK X mi pc lv rest (bc - mC mj) (bs - mS mj) Q)) : AW X mi pc lv (v1 :: rest) h bc bs Q := a_callS (as := [v1]) q rfl hw hb (Or.inl hA) k
theorem a_cv1 {v1 : Value} {o : Nat} {fs : List Value} (q : cfB mi pc i mj 1 4 1 = true) (ho : h[o]? = some (.inl (mO mj, fs))) (hw : Nat.ble (rest.map fun v => v.category).sum 8 = true) (hb : Nat.ble (mC mj) bc = true ∧ Nat.ble (mS mj) bs = true) (hA : mA mj = 0) (k : Call X mj (.ref o :: [v1]) h (CK X mi pc lv rest (bc - mC mj) (bs - mS mj) Q)) : AW X mi pc lv (v1 :: .ref o :: rest) h bc bs Q := a_callV (as := [v1]) q rfl ho hw hb (Or.inl hA) k
theorem a_cs2 {nest : Nat} {v1 v2 : Value} (q : cfB mi pc i mj 0 nest 2 = true) (hw : Nat.ble (rest.map fun v => v.category).sum 8 = true) (hb : Nat.ble (mC mj) bc = true ∧ Nat.ble (mS mj) bs = true) (hA : mA mj = 0) (k : Call X mj [v1, v2] h (CK X mi pc lv rest (bc - mC mj) (bs - mS mj) Q)) : AW X mi pc lv (v2 :: v1 :: rest) h bc bs Q := a_callS (as := [v1, v2]) q rfl hw hb (Or.inl hA) k
theorem a_cv2 {v1 v2 : Value} {o : Nat} {fs : List Value} (q : cfB mi pc i mj 1 4 2 = true) (ho : h[o]? = some (.inl (mO mj, fs))) (hw : Nat.ble (rest.map fun v => v.category).sum 8 = true) (hb : Nat.ble (mC mj) bc = true ∧ Nat.ble (mS mj) bs = true) (hA : mA mj = 0) (k : Call X mj (.ref o :: [v1, v2]) h (CK X mi pc lv rest (bc - mC mj) (bs - mS mj) Q)) : AW X mi pc lv (v2 :: v1 :: .ref o :: rest) h bc bs Q := a_callV (as := [v1, v2]) q rfl ho hw hb (Or.inl hA) k
theorem a_cs3 {nest : Nat} {v1 v2 v3 : Value} (q : cfB mi pc i mj 0 nest 3 = true) (hw : Nat.ble (rest.map fun v => v.category).sum 8 = true) (hb : Nat.ble (mC mj) bc = true ∧ Nat.ble (mS mj) bs = true) (hA : mA mj = 0) (k : Call X mj [v1, v2, v3] h (CK X mi pc lv rest (bc - mC mj) (bs - mS mj) Q)) : AW X mi pc lv (v3 :: v2 :: v1 :: rest) h bc bs Q := a_callS (as := [v1, v2, v3]) q rfl hw hb (Or.inl hA) k
theorem a_cv3 {v1 v2 v3 : Value} {o : Nat} {fs : List Value} (q : cfB mi pc i mj 1 4 3 = true) (ho : h[o]? = some (.inl (mO mj, fs))) (hw : Nat.ble (rest.map fun v => v.category).sum 8 = true) (hb : Nat.ble (mC mj) bc = true ∧ Nat.ble (mS mj) bs = true) (hA : mA mj = 0) (k : Call X mj (.ref o :: [v1, v2, v3]) h (CK X mi pc lv rest (bc - mC mj) (bs - mS mj) Q)) : AW X mi pc lv (v3 :: v2 :: v1 :: .ref o :: rest) h bc bs Q := a_callV (as := [v1, v2, v3]) q rfl ho hw hb (Or.inl hA) k
theorem a_cs4 {nest : Nat} {v1 v2 v3 v4 : Value} (q : cfB mi pc i mj 0 nest 4 = true) (hw : Nat.ble (rest.map fun v => v.category).sum 8 = true) (hb : Nat.ble (mC mj) bc = true ∧ Nat.ble (mS mj) bs = true) (hA : mA mj = 0) (k : Call X mj [v1, v2, v3, v4] h (CK X mi pc lv rest (bc - mC mj) (bs - mS mj) Q)) : AW X mi pc lv (v4 :: v3 :: v2 :: v1 :: rest) h bc bs Q := a_callS (as := [v1, v2, v3, v4]) q rfl hw hb (Or.inl hA) k
theorem a_cv4 {v1 v2 v3 v4 : Value} {o : Nat} {fs : List Value} (q : cfB mi pc i mj 1 4 4 = true) (ho : h[o]? = some (.inl (mO mj, fs))) (hw : Nat.ble (rest.map fun v => v.category).sum 8 = true) (hb : Nat.ble (mC mj) bc = true ∧ Nat.ble (mS mj) bs = true) (hA : mA mj = 0) (k : Call X mj (.ref o :: [v1, v2, v3, v4]) h (CK X mi pc lv rest (bc - mC mj) (bs - mS mj) Q)) : AW X mi pc lv (v4 :: v3 :: v2 :: v1 :: .ref o :: rest) h bc bs Q := a_callV (as := [v1, v2, v3, v4]) q rfl ho hw hb (Or.inl hA) k
theorem a_cs5 {nest : Nat} {v1 v2 v3 v4 v5 : Value} (q : cfB mi pc i mj 0 nest 5 = true) (hw : Nat.ble (rest.map fun v => v.category).sum 8 = true) (hb : Nat.ble (mC mj) bc = true ∧ Nat.ble (mS mj) bs = true) (hA : mA mj = 0) (k : Call X mj [v1, v2, v3, v4, v5] h (CK X mi pc lv rest (bc - mC mj) (bs - mS mj) Q)) : AW X mi pc lv (v5 :: v4 :: v3 :: v2 :: v1 :: rest) h bc bs Q := a_callS (as := [v1, v2, v3, v4, v5]) q rfl hw hb (Or.inl hA) k
theorem a_cv5 {v1 v2 v3 v4 v5 : Value} {o : Nat} {fs : List Value} (q : cfB mi pc i mj 1 4 5 = true) (ho : h[o]? = some (.inl (mO mj, fs))) (hw : Nat.ble (rest.map fun v => v.category).sum 8 = true) (hb : Nat.ble (mC mj) bc = true ∧ Nat.ble (mS mj) bs = true) (hA : mA mj = 0) (k : Call X mj (.ref o :: [v1, v2, v3, v4, v5]) h (CK X mi pc lv rest (bc - mC mj) (bs - mS mj) Q)) : AW X mi pc lv (v5 :: v4 :: v3 :: v2 :: v1 :: .ref o :: rest) h bc bs Q := a_callV (as := [v1, v2, v3, v4, v5]) q rfl ho hw hb (Or.inl hA) k
theorem a_cs6 {nest : Nat} {v1 v2 v3 v4 v5 v6 : Value} (q : cfB mi pc i mj 0 nest 6 = true) (hw : Nat.ble (rest.map fun v => v.category).sum 8 = true) (hb : Nat.ble (mC mj) bc = true ∧ Nat.ble (mS mj) bs = true) (hA : mA mj = 0) (k : Call X mj [v1, v2, v3, v4, v5, v6] h (CK X mi pc lv rest (bc - mC mj) (bs - mS mj) Q)) : AW X mi pc lv (v6 :: v5 :: v4 :: v3 :: v2 :: v1 :: rest) h bc bs Q := a_callS (as := [v1, v2, v3, v4, v5, v6]) q rfl hw hb (Or.inl hA) k
theorem a_cv6 {v1 v2 v3 v4 v5 v6 : Value} {o : Nat} {fs : List Value} (q : cfB mi pc i mj 1 4 6 = true) (ho : h[o]? = some (.inl (mO mj, fs))) (hw : Nat.ble (rest.map fun v => v.category).sum 8 = true) (hb : Nat.ble (mC mj) bc = true ∧ Nat.ble (mS mj) bs = true) (hA : mA mj = 0) (k : Call X mj (.ref o :: [v1, v2, v3, v4, v5, v6]) h (CK X mi pc lv rest (bc - mC mj) (bs - mS mj) Q)) : AW X mi pc lv (v6 :: v5 :: v4 :: v3 :: v2 :: v1 :: .ref o :: rest) h bc bs Q := a_callV (as := [v1, v2, v3, v4, v5, v6]) q rfl ho hw hb (Or.inl hA) k
theorem a_cs7 {nest : Nat} {v1 v2 v3 v4 v5 v6 v7 : Value} (q : cfB mi pc i mj 0 nest 7 = true) (hw : Nat.ble (rest.map fun v => v.category).sum 8 = true) (hb : Nat.ble (mC mj) bc = true ∧ Nat.ble (mS mj) bs = true) (hA : mA mj = 0) (k : Call X mj [v1, v2, v3, v4, v5, v6, v7] h (CK X mi pc lv rest (bc - mC mj) (bs - mS mj) Q)) : AW X mi pc lv (v7 :: v6 :: v5 :: v4 :: v3 :: v2 :: v1 :: rest) h bc bs Q := a_callS (as := [v1, v2, v3, v4, v5, v6, v7]) q rfl hw hb (Or.inl hA) k
theorem a_cs8 {nest : Nat} {v1 v2 v3 v4 v5 v6 v7 v8 : Value} (q : cfB mi pc i mj 0 nest 8 = true) (hw : Nat.ble (rest.map fun v => v.category).sum 8 = true) (hb : Nat.ble (mC mj) bc = true ∧ Nat.ble (mS mj) bs = true) (hA : mA mj = 0) (k : Call X mj [v1, v2, v3, v4, v5, v6, v7, v8] h (CK X mi pc lv rest (bc - mC mj) (bs - mS mj) Q)) : AW X mi pc lv (v8 :: v7 :: v6 :: v5 :: v4 :: v3 :: v2 :: v1 :: rest) h bc bs Q := a_callS (as := [v1, v2, v3, v4, v5, v6, v7, v8]) q rfl hw hb (Or.inl hA) k
end CALLN
end
section
/-! an exception made and thrown, of a class whose constructor passes its text on by any link (after the kit's laws vx_ctorMadeS, vx_makeS) -/
def vn_ch (X : String) (ix : Nat) (rx : ByteArray) : List String → List Cond
  | [] => Bundle.passSAtoms X Bundle.tN ix rx
  | Y :: r => Bundle.passSAtoms X Y ix rx ++ Bundle.chainSAtoms Y r
theorem vn_chain {args : Array Value} {s : State} {pl : Platform} (hpl : pl.magicAccessors = ({} : Platform).magicAccessors) {top : MethodId} (htop : s.methodNamed? (Bundle.initS Bundle.tN) = some top)
    {ix : Nat} {rx : ByteArray} (x0 : decode rx 0 = .ok (.aload_n 0, 1)) (x1 : decode rx 1 = .ok (.aload_n 1, 1)) (x2 : decode rx 2 = .ok (.invokespecial ix, 3)) (x5 : decode rx 5 = .ok (.return_, 1)) (names : List String) (X : String) (hX : Bundle.fit X = true) (hn : ∀ n ∈ names, Bundle.fit n = true) (h : ∀ c ∈ vn_ch X ix rx names, c.before args s = true) :
    ∃ (P1 : PassC) (Ps : List PassC), Ps.length = names.length ∧ P1.LinksS pl s ∧ (∀ P, P ∈ Ps → P.LinksS pl s) ∧ s.methodNamed? (Bundle.initS X) = some P1.m ∧
      P1.sup = firstOf top (Ps.map (·.toPassT)) ∧ PassesOn top (Ps.map (·.toPassT)) := by
  cases names with
  | nil =>
    obtain ⟨P, L, hm, hs⟩ := PassC.ofS_atoms (args := args) (s := s) hpl (X := X) (Y := Bundle.tN) (Bundle.fit_spec hX).1 (by decide) x0 x1 x2 x5 h
    exact ⟨P, [], rfl, L, (fun _ hP => by cases hP), hm, Option.some.inj (hs.symm.trans htop), trivial⟩
  | cons Y r =>
    obtain ⟨P, L, hm, hs⟩ := PassC.ofS_atoms (args := args) (s := s) hpl (X := X) (Y := Y) (Bundle.fit_spec hX).1 (Bundle.fit_spec (hn Y List.mem_cons_self)).2 x0 x1 x2 x5 (fun c hc => h c (List.mem_append_left _ hc))
    obtain ⟨P', Ps, hlen, L', hL, hm', hsup, hpass⟩ := Bundle.chainS (args := args) hpl htop r Y (hn Y List.mem_cons_self) (fun n hn' => hn n (List.mem_cons_of_mem _ hn')) (fun c hc => h c (List.mem_append_right _ hc))
    refine ⟨P, P' :: Ps, by simp [hlen], L, ?_, hm, Option.some.inj (hs.symm.trans hm'), hsup, hpass⟩
    intro Q hQ
    rcases List.mem_cons.mp hQ with rfl | hQ
    · exact L'
    · exact hL Q hQ
def vn_own (own : String) (ic : Nat) (X : String) (ix : Nat) (rx : ByteArray) (names : List String) : List Cond :=
  Bundle.throwableAtoms ++ Bundle.throwableSAtoms ++ vn_ch X ix rx names ++
  [.methodLink own ic (Bundle.initS X), .instantiable X 6, .castable X X, .selects X Bundle.tFill0 Bundle.tFill0, .selects X Bundle.tFill Bundle.tFill,
   .lays X Bundle.tN "cause" "Ljava/lang/Throwable;", .lays X Bundle.tN "stackTrace" Bundle.steD, .lays X Bundle.tN "suppressedExceptions" Bundle.listD, .lays X Bundle.tN "detailMessage" "Ljava/lang/String;",
   .isRef (.static Bundle.tN "UNASSIGNED_STACK" Bundle.steD), .isRef (.static Bundle.tN "SUPPRESSED_SENTINEL" Bundle.listD),
   .fieldLink Bundle.tN 198 Bundle.tN "backtrace" "Ljava/lang/Object;", .lays Bundle.tN Bundle.tN "backtrace" "Ljava/lang/Object;", .lays X Bundle.tN "backtrace" "Ljava/lang/Object;"]
def vn_at (own : String) (ic : Nat) (X : String) (ix : Nat) (rx : ByteArray) (names : List String) : List Cond := (vn_own own ic X ix rx names).filter vx_no
section VNK
variable {p : Program} {l : Launch} {e : Env} {R : Room} {s : State} {m₀ : MethodId} {args : Array Value} {below : List Frame} {meth : Method} {c : Code} {W : State} {locs : List Loc} {cells slots : Nat}
set_option maxHeartbeats 1000000 in
theorem vn_ctorMade (X : Stand p l e R s m₀ args below meth c W locs cells slots) (hexec : p.tables.exec = Jvm.exec) (htr : e.platform.stackTraces = false) {own cls : String} {names : List String} {ic ix : Nat} {rx : ByteArray} (x0 : decode rx 0 = .ok (.aload_n 0, 1)) (x1 : decode rx 1 = .ok (.aload_n 1, 1)) (x2 : decode rx 2 = .ok (.invokespecial ix, 3)) (x5 : decode rx 5 = .ok (.return_, 1))
    (hown : s.vm.findClass own = some m₀.cls) (hcls : Bundle.fit cls = true) (hnames : ∀ n ∈ names, Bundle.fit n = true)
    (h : ∀ a ∈ vn_own own ic cls ix rx names, a.before args s = true)
    (hlocs : ∀ x ∈ locs, ∀ cell, s.heap[x.base]? = some cell → cell.vm.isStatics = false)
    {a : Addr} {cX : ClassId} {kX : Class} (hfoundX : s.vm.findClass cls = some cX) (hkX : s.vm.classes[cX]? = some kX) (hcell : W.heap[a]? = some (freshCell cX kX)) (hnew : s.heap.size ≤ a)
    {msg : Value} (hmsg : msg.isRef = true)
    {g : JFrame} (hg : g.method = m₀) (hsize : g.locals.size = c.maxLocals) {rest : List Value} (hstack : g.stack = msg :: .ref a :: .ref a :: rest)
    (hd6 : decode c.code g.pc = .ok (.invokespecial ic, 3))
    (hRframes : names.length + 3 < R.frames) (hRlocals : 2 * g.monitorRoom + ((Value.ref a :: rest).map fun v => v.category).sum + (13 * (names.length + 1) + 42) ≤ R.locals) :
    ∃ (V : State) (ce : Cell) (L : List Loc), Stand p l e R s m₀ args below meth c (V.setCell a ce) (locs ++ L) cells slots ∧ (∀ y ∈ L, y.base = a) ∧ a < V.heap.size ∧ ce.cls = cX ∧ ce.vm = .none ∧
      ∀ target, Steps p.tables e below ((V.setCell a ce).setTop { g with stack := .ref a :: rest, pc := g.pc + 3 }) target → Steps p.tables e below (W.setTop g) target := by
  have howns : e.platform.frameOwnsMonitors = true := by rw [X.admits.platform]
  have hfin : e.platform.finalization = false := by rw [X.admits.platform]
  have hpl : e.platform.magicAccessors = ({} : Platform).magicAccessors := by rw [X.admits.platform]
  have a' : ∀ x, x ∈ vn_own own ic cls ix rx names → x.holds args s none s [] = true := fun x hx => h x hx
  obtain ⟨T, Z0, L, -, Y⟩ := ThrowableC.of_atoms (args := args) howns hfin hpl (fun x hx => h x (by simp [vn_own, hx]))
  obtain ⟨Z, M, LZ, LM, hnZ⟩ := Init0T.ofS_atoms (args := args) hpl L Y (fun x hx => h x (by simp [vn_own, hx]))
  obtain ⟨P1, Ps, hlen, L1, hL, hP1m, hlink1, hlink⟩ := vn_chain (args := args) hpl hnZ x0 x1 x2 x5 names cls hcls hnames (fun x hx => h x (by simp [vn_own, hx]))
  have hfound : s.vm.findClass cls = some P1.m.cls := findClass_of_methodNamed hP1m
  cases Option.some.inj (hfoundX.symm.trans hfound)
  obtain ⟨c1, kX', hc1, hk, hord, -, -, hn6⟩ := Cond.instantiable_spec (a' (.instantiable cls 6) (by simp [vn_own]))
  cases Option.some.inj (hc1.symm.trans hfound)
  cases Option.some.inj (hkX.symm.trans hk)
  have hsel0 : selectMethod e.platform s.vm P1.m.cls T.fill0 = .method T.fill0 := by
    obtain ⟨c2, r2, m2, q1, q2, q3, q4, -⟩ := Cond.selects_spec (a' (.selects cls Bundle.tFill0 Bundle.tFill0) (by simp [vn_own]))
    cases Option.some.inj (q1.symm.trans hfound)
    cases Option.some.inj (q2.symm.trans (State.methodFound?_of_named Y.fill0 (by decide)))
    cases Option.some.inj (q3.symm.trans Y.fill0)
    rw [Launch.admits_selectMethod X.admits]; exact q4
  have hselF : selectMethod e.platform s.vm P1.m.cls T.fill = .method T.fill := by
    obtain ⟨c2, r2, m2, q1, q2, q3, q4, -⟩ := Cond.selects_spec (a' (.selects cls Bundle.tFill Bundle.tFill) (by simp [vn_own]))
    cases Option.some.inj (q1.symm.trans hfound)
    cases Option.some.inj (q2.symm.trans (State.methodFound?_of_named Y.fill (by decide)))
    cases Option.some.inj (q3.symm.trans Y.fill)
    rw [Launch.admits_selectMethod X.admits]; exact q4
  obtain ⟨cellS0, hcS0, hiss⟩ := Y.statics
  obtain ⟨u0, hu0⟩ := Cond.staticRefV Y.unassigned L.unassignedStatic L.statics hcS0 hiss (a' (.isRef (.static Bundle.tN "UNASSIGNED_STACK" Bundle.steD)) (by simp [vn_own]))
  obtain ⟨sen, hsen⟩ := Cond.staticRefV Y.sentinel L.sentinelStatic L.statics hcS0 hiss (a' (.isRef (.static Bundle.tN "SUPPRESSED_SENTINEL" Bundle.listD)) (by simp [vn_own]))
  obtain ⟨ci198, i198, fB, hk198, hg198, ha198, hsB, -, hnB, htB, hffB⟩ := Cond.ownField (t := .object "java/lang/Object") Y.found L.cls (by decide +kernel) (a' (.fieldLink Bundle.tN 198 Bundle.tN "backtrace" "Ljava/lang/Object;") (by simp [vn_own])) (a' (.lays Bundle.tN Bundle.tN "backtrace" "Ljava/lang/Object;") (by simp [vn_own])) e.platform hpl
  obtain ⟨cellS, hcS', heS, -, hkeep⟩ := X.same.2.2.2.2.2 T.aS cellS0 hcS0
  have hcellS : W.heap[T.aS]? = some cellS := hcS'
  have hout' : ∀ i, (⟨T.aS, i⟩ : Loc) ∉ locs := fun i hmem => by
    have := hlocs _ hmem cellS0 hcS0
    rw [hiss] at this; cases this
  have hknownS : cellS.vm ≠ .unknown := by
    rw [heS]; intro hu
    rw [show cellS0.vm = .unknown from hu] at hiss
    cases hiss
  have hneS : T.aS ≠ a := Nat.ne_of_lt (Nat.lt_of_lt_of_le (Array.getElem?_eq_some_iff.mp hcS0).1 hnew)
  obtain ⟨iM, hffM⟩ := Y.msg
  obtain ⟨tyC, dC, hdC, hdnC⟩ := Cond.laysAt hfound hk Y.cause (a' (.lays cls Bundle.tN "cause" "Ljava/lang/Throwable;") (by simp [vn_own]))
  obtain ⟨tyS, dS, hdS, hdnS⟩ := Cond.laysAt hfound hk Y.stack (a' (.lays cls Bundle.tN "stackTrace" Bundle.steD) (by simp [vn_own]))
  obtain ⟨tyP, dP, hdP, hdnP⟩ := Cond.laysAt hfound hk Y.supp (a' (.lays cls Bundle.tN "suppressedExceptions" Bundle.listD) (by simp [vn_own]))
  obtain ⟨tyM, dM, hdM, hdnM⟩ := Cond.laysAt hfound hk hffM (a' (.lays cls Bundle.tN "detailMessage" "Ljava/lang/String;") (by simp [vn_own]))
  obtain ⟨tyB, dB, hdB, hdnB⟩ := Cond.laysAt hfound hk hffB (a' (.lays cls Bundle.tN "backtrace" "Ljava/lang/Object;") (by simp [vn_own]))
  have bC := Cond.laysApart hdB hdC hdnB hdnC (by rw [hnB, Y.causeName]; decide)
  have bS := Cond.laysApart hdB hdS hdnB hdnS (by rw [hnB, Y.stackName]; decide)
  have bP := Cond.laysApart hdB hdP hdnB hdnP (by rw [hnB, Y.suppName]; decide)
  have hskip : SkipFacts T e.platform s (fun u => u) u0 ((preparedCellV T.toThrowableT (freshCell P1.m.cls kX) a u0 sen).withEntry W.cur) :=
    ⟨{ ci198 := ci198, i198 := i198, fBack := fB }, ⟨hk198, hg198, ha198, hsB⟩, by
      have := fresh_default (c := P1.m.cls) tyB
      rw [htB] at this
      simpa [preparedCellV, Cell.setSlot, Cell.withEntry, Array.getElem?_setIfInBounds, bC, bS, bP, bC.symm, bS.symm, bP.symm, defaultValue] using this, fun _ _ => rfl⟩
  obtain ⟨tm, methC, cdC, kC, vm₁, hnC, -, -, -, -, -, -, -, hW₁, st1⟩ := Steps.initColdS (tb := p.tables) (e := e) (below := below) (s := s) (U := W) X.here hexec X.warmed hpl hown (t := Bundle.initS cls) rfl rfl (Bundle.fit_spec hcls).2
    (a' (.methodLink own ic (Bundle.initS cls)) (by simp [vn_own])) (h (.instanceMethod (Bundle.initS cls)) (by cases names <;> simp [vn_own, vn_ch, Bundle.passSAtoms])) (bytes := rx) (maxL := 2) (h (.code (Bundle.initS cls) rx 2 none) (by cases names <;> simp [vn_own, vn_ch, Bundle.passSAtoms]))
    (f := g) hg (a := a) (msg := msg) (rest := .ref a :: rest) hstack hd6
  cases Option.some.inj (hnC.symm.trans hP1m)
  have X₁ := X.noted hW₁
  obtain ⟨vm₂, X₂, st2⟩ := X₁.ctorMessageOffV hexec (g := { g with stack := .ref a :: rest }) hg hsize T L Z LZ M LM (P1 :: Ps)
    (fun P hP => by rcases List.mem_cons.mp hP with rfl | hP; exact L1; exact hL P hP) ⟨hlink1, hlink⟩ (u0 := u0) (sen := sen) (self := a) hmsg (cell := freshCell P1.m.cls kX) (cellS := cellS)
    hcell (fun _ => by simp) (by simp) rfl rfl hsel0 hselF hcellS hneS hknownS (by rw [hkeep _ (hout' _)]; exact hu0) (by rw [hkeep _ (hout' _)]; exact hsen)
    (Takes.of_laid hk hord tyC (by rw [Y.causeType]; rfl)) (Takes.of_laid hk hord tyS (by rw [Y.stackType]; exact fits_refV_array _ u0)) (Takes.of_laid hk hord tyP (by rw [Y.suppType]; exact fits_refV_object _ sen))
    (Takes.of_laid hk hord tyM (by rw [Y.msgType]; exact fits_refV_object _ ⟨msg, hmsg⟩)) Y.objLocals hskip htr [] hd6
    (by simp only [List.length_cons, hlen]; omega) (by simp only [List.length_cons, hlen]; exact hRlocals)
  have hlt : a < ((W.setVm vm₁).setVm vm₂).heap.size := (Array.getElem?_eq_some_iff.mp hcell).1
  refine ⟨(W.setVm vm₁).setVm vm₂, _, _, X₂, fun y hy => ?_, hlt, rfl, rfl, fun target hwalk => st1 _ (fun acts => ?_)⟩
  · simp only [List.mem_cons, List.not_mem_nil, or_false] at hy
    rcases hy with rfl | rfl | rfl | rfl | rfl <;> rfl
  · rw [doInvoke_state]
    exact st2 _ hwalk
end VNK
section VNK2
variable {p : Program} {l : Launch} {e : Env} {R : Room} {s : State} {m : MethodId} {args : Array Value} {below : List Frame} {meth : Method} {c : Code} {H : Heap} {locs : List Loc} {cells slots : Nat} {Q : State → Prop} {ls : Array Slot} {rest : List Value}
theorem vx_back9 {T S : State} {R' : Room} {k n : Nat} (X : Stand p l e R s m args below meth c T locs cells slots) (Y : Stand p l e R' ((T.setVm s.vm).setFrames (.invoking m args :: below)) m args below meth c T [] 0 0) (Z : Stand p l e R' ((T.setVm s.vm).setFrames (.invoking m args :: below)) m args below meth c S [] k n) :
    Stand p l e R s m args below meth c S locs (cells + k) (slots + n) := by
  have hW0 : s.WarmedH ((T.setVm s.vm).setFrames (.invoking m args :: below)).vm := State.WarmedH.refl s
  refine { admits := X.admits, cas := X.cas, clock := X.clock, frames := X.frames, room := X.room, hears := X.hears, method := X.method, code := X.code, here := Z.here, tail := Z.tail, warmed := State.WarmedH.trans hW0 Z.warmed, limits := Z.limits.trans (Y.limits.symm.trans X.limits), bytes := Z.bytes.trans (Y.bytes.symm.trans X.bytes), same := ?_ }
  obtain ⟨e1, e2⟩ := Z.same
  rw [State.setFrames_setFrames] at e1
  have h2 : (T.setVm s.vm).sameButNew (S.setVm s.vm) [] k n := ⟨e1, e2⟩
  have h3 := X.same.trans h2
  rw [List.append_nil] at h3
  exact h3
theorem vx_athrow {cc : ByteArray} {pc : Nat} (hexec : p.tables.exec = Jvm.exec) (hb : c.code = cc) {q : Addr} (hdg : decode cc pc = .ok (.athrow, 1)) (k : vx_W p l e R s m args below meth c H locs cells slots Q (F0 m pc ls rest) q) : W p l e R s m args below meth c H locs cells slots Q (F0 m pc ls (.ref q :: rest)) := by
  intro T hT X
  obtain ⟨t, st, hq⟩ := k T hT X
  refine ⟨t, ?_, hq⟩
  have hdg' : decode c.code pc = .ok (.athrow, 1) := by rw [hb]; exact hdg
  jvm_step X.here [X.here.top, hexec, hdg', athrow.wp_sem]
  exact st
set_option maxHeartbeats 1000000 in
theorem vn_throw {cc : ByteArray} {pc : Nat} (hexec : p.tables.exec = Jvm.exec) (hb : c.code = cc) (hl : l.stackTraces = false) {own cls text : String} {names : List String} {ik is ic sa ix : Nat} {rx : ByteArray} {A : Nat → Prop}
    (x0 : decode rx 0 = .ok (.aload_n 0, 1)) (x1 : decode rx 1 = .ok (.aload_n 1, 1)) (x2 : decode rx 2 = .ok (.invokespecial ix, 3)) (x5 : decode rx 5 = .ok (.return_, 1))
    (hown : s.vm.findClass own = some m.cls) (hcls : Bundle.fit cls = true) (hnames : ∀ n ∈ names, Bundle.fit n = true)
    (hk : (Cond.classLink own ik cls).before args s = true) (hini : (Cond.initialized cls).before args s = true) (hstr : vk_R own is text sa s) (hat : ∀ w ∈ vn_at own ic cls ix rx names, w.before args s = true)
    (hgood : ∀ w ∈ Cond.classLink own ik cls :: Cond.initialized cls :: vn_at own ic cls ix rx names, vx_ot w = true)
    (hU : vx_Zq Bundle.tN "UNASSIGNED_STACK" Bundle.steD A s s.heap) (hN : vx_Zq Bundle.tN "SUPPRESSED_SENTINEL" Bundle.listD A s s.heap) (hS : va_S A s.heap H locs) (hsize : ls.size = c.maxLocals)
    (d0 : decode cc pc = .ok (.new ik, 3)) (d3 : decode cc (pc + 3) = .ok (.dup, 1)) (d4 : decode cc (pc + 4) = .ok (.ldc is, 2)) (d6 : decode cc (pc + 6) = .ok (.invokespecial ic, 3))
    (hRframes : names.length + 3 < R.frames) (hRlocals : (rest.map fun v => v.category).sum + (13 * (names.length + 1) + 43) ≤ R.locals) (hRcells : cells + 1 ≤ R.cells) (hRslots : slots + 6 ≤ R.slots)
    (kk : ∀ (q : Nat) (H1 : Heap) (ce : Cell), H1[q]? = some ce → ce.vm = .none → s.vm.findClass cls = some ce.cls → H.size ≤ H1.size → (∀ a : Nat, a < H.size → H1[a]? = H[a]?) → W p l e R s m args below meth c H1 locs (cells + 1) (slots + 6) Q (F0 m (pc + 9) ls (.ref q :: rest))) :
    W p l e R s m args below meth c H locs cells slots Q (F0 m pc ls rest) := by
  intro T hT X
  subst hT
  have htr : e.platform.stackTraces = false := (show e.platform.stackTraces = l.stackTraces by rw [X.admits.platform]).trans hl
  have Y := vx_rebase X (R' := { frames := R.frames, locals := R.locals, cells := 1, slots := 6 }) (Nat.le_refl _) (Nat.le_refl _) hRcells hRslots
  obtain ⟨s', hA'⟩ : ∃ z, z = (T.setVm s.vm).setFrames (.invoking m args :: below) := ⟨_, rfl⟩
  rw [← hA'] at Y
  have hvm : s'.vm = s.vm := by rw [hA']; rfl
  have hhp : s'.heap = T.heap := by rw [hA']; rfl
  have hW0 : s.WarmedH s'.vm := by rw [hvm]; exact State.WarmedH.refl s
  have hat' : ∀ w ∈ vn_at own ic cls ix rx names, w.before args s' = true := fun w hw => vx_ot_at hW0 hvm.symm (hgood w (List.mem_cons_of_mem _ (List.mem_cons_of_mem _ hw))) (hat w hw)
  have hk' : (Cond.classLink own ik cls).before args s' = true := vx_ot_at hW0 hvm.symm (hgood _ List.mem_cons_self) hk
  have hini' : (Cond.initialized cls).before args s' = true := vx_ot_at hW0 hvm.symm (hgood _ (List.mem_cons_of_mem _ List.mem_cons_self)) hini
  have hU' : vx_Zq Bundle.tN "UNASSIGNED_STACK" Bundle.steD A s' s'.heap := by rw [hhp]; exact vx_Zq.moved hW0.alike (hU.kept hS.2.1)
  have hN' : vx_Zq Bundle.tN "SUPPRESSED_SENTINEL" Bundle.listD A s' s'.heap := by rw [hhp]; exact vx_Zq.moved hW0.alike (hN.kept hS.2.1)
  have h : ∀ w ∈ vn_own own ic cls ix rx names, w.before args s' = true := vx_own hat' (vx_isRefq hU'.1) (vx_isRefq hN'.1) hU'.2.word hN'.2.word
  have hown' : s'.vm.findClass own = some m.cls := by rw [hvm]; exact hown
  have hins : (Cond.instantiable cls 6).before args s' = true := h _ (by simp [vn_own])
  obtain ⟨vm₁, cX, kX, hfX, hkX, -, -, X₁, st1⟩ := Y.newCold hexec (own := own) (C := cls) (index := ik) (n := 6) hown' hk' hins hini'
    (g := F0 m pc ls rest) rfl (by rw [hb]; exact d0) (Nat.le_refl _) (Nat.le_refl _)
  generalize hT1 : (T.setVm vm₁).pushCell { cls := cX, slots := kX.instanceTypes.map defaultValue, vm := .none } = T1 at X₁ st1
  have hcat : (Value.ref T.heap.size).category = 1 := rfl
  have hcellA : T1.heap[T.heap.size]? = some (freshCell cX kX) := by rw [← hT1]; exact State.heap_pushCell_size _ _
  have d3' : decode c.code (pc + 3) = .ok (.dup, 1) := by rw [hb]; exact d3
  have d4' : decode c.code (pc + 4) = .ok (.ldc is, 2) := by rw [hb]; exact d4
  have hstr' : vk_R own is text sa s' := vk_R.warm hW0 hstr
  obtain ⟨V, ce, L, Z, hL, hlt, hcl9, hvm9, st⟩ := vn_ctorMade X₁ hexec htr x0 x1 x2 x5 (own := own) (cls := cls) (names := names) (ic := ic) hown' hcls hnames h (fun x hx => nomatch hx) hfX hkX hcellA (by rw [hhp]; exact Nat.le_refl _) (msg := .ref sa) rfl
    (g := { method := m, pc := pc + 6, locals := ls, stack := .ref sa :: .ref T.heap.size :: .ref T.heap.size :: rest, locked := none }) rfl hsize (rest := rest) rfl
    (by rw [hb]; exact d6) hRframes (by simp only [List.map_cons, List.sum_cons, hcat]; omega)
  have Z0 := Stand.forget (locs := []) Z (fun y hy => by rw [hL y hy, hhp]; exact Nat.le_refl _)
  obtain ⟨f1, f2⟩ := vx_frame Z0.same
  rw [hhp] at f1 f2
  have hcid : s.vm.findClass cls = some ce.cls := by
    rw [hcl9]
    rw [hvm] at hfX
    exact hfX
  have hh : (V.setCell T.heap.size ce).heap[T.heap.size]? = some ce := heapAt_setCell_self (s := V) ce hlt
  subst hA'
  have X5 := vx_back9 X Y Z0
  have X6 : Stand p l e R s m args below meth c (V.setCell T.heap.size ce) locs (cells + 1) (slots + 6) := { X5 with same := X5.same.mono (by omega) (by omega) }
  obtain ⟨t, a1, b1⟩ := kk T.heap.size (V.setCell T.heap.size ce).heap ce hh hvm9 hcid f1 (fun q h1 => f2 q h1 (fun z hz => nomatch hz)) _ rfl X6
  refine ⟨t, st1 _ ?_, b1⟩
  show Steps p.tables e below (T1.setTop { method := m, pc := pc + 3, locals := ls, stack := .ref T.heap.size :: rest, locked := none }) _
  jvm_step X₁.here [X₁.here.top, hexec, d3', Value.category]
  exact X₁.ldcString hexec (own := own) (text := text) (index := is) (a := sa) hown' hstr'.1 hstr'.2
    (g := { method := m, pc := pc + 4, locals := ls, stack := .ref T.heap.size :: .ref T.heap.size :: rest, locked := none }) rfl d4' _ (st _ a1)
set_option maxHeartbeats 1000000 in
theorem vn_throwW {cc : ByteArray} {pc : Nat} (hexec : p.tables.exec = Jvm.exec) (hb : c.code = cc) (hl : l.stackTraces = false) {own cls text : String} {names : List String} {ik is ic sa ix : Nat} {rx : ByteArray} {A : Nat → Prop}
    (x0 : decode rx 0 = .ok (.aload_n 0, 1)) (x1 : decode rx 1 = .ok (.aload_n 1, 1)) (x2 : decode rx 2 = .ok (.invokespecial ix, 3)) (x5 : decode rx 5 = .ok (.return_, 1))
    (hown : s.vm.findClass own = some m.cls) (hcls : Bundle.fit cls = true) (hnames : ∀ n ∈ names, Bundle.fit n = true)
    (hk : (Cond.classLink own ik cls).before args s = true) (hini : (Cond.initialized cls).before args s = true) (hstr : vk_R own is text sa s) (hat : ∀ w ∈ vn_at own ic cls ix rx names, w.before args s = true)
    (hgood : ∀ w ∈ Cond.classLink own ik cls :: Cond.initialized cls :: vn_at own ic cls ix rx names, vx_ot w = true)
    (hU : vx_Zq Bundle.tN "UNASSIGNED_STACK" Bundle.steD A s s.heap) (hN : vx_Zq Bundle.tN "SUPPRESSED_SENTINEL" Bundle.listD A s s.heap) (hS : va_S A s.heap H locs) (hsize : ls.size = c.maxLocals)
    (d0 : decode cc pc = .ok (.new ik, 3)) (d3 : decode cc (pc + 3) = .ok (.dup, 1)) (d4 : decode cc (pc + 4) = .ok (.ldc_w is, 3)) (d6 : decode cc (pc + 7) = .ok (.invokespecial ic, 3))
    (hRframes : names.length + 3 < R.frames) (hRlocals : (rest.map fun v => v.category).sum + (13 * (names.length + 1) + 43) ≤ R.locals) (hRcells : cells + 1 ≤ R.cells) (hRslots : slots + 6 ≤ R.slots)
    (kk : ∀ (q : Nat) (H1 : Heap) (ce : Cell), H1[q]? = some ce → ce.vm = .none → s.vm.findClass cls = some ce.cls → H.size ≤ H1.size → (∀ a : Nat, a < H.size → H1[a]? = H[a]?) → W p l e R s m args below meth c H1 locs (cells + 1) (slots + 6) Q (F0 m (pc + 10) ls (.ref q :: rest))) :
    W p l e R s m args below meth c H locs cells slots Q (F0 m pc ls rest) := by
  intro T hT X
  subst hT
  have htr : e.platform.stackTraces = false := (show e.platform.stackTraces = l.stackTraces by rw [X.admits.platform]).trans hl
  have Y := vx_rebase X (R' := { frames := R.frames, locals := R.locals, cells := 1, slots := 6 }) (Nat.le_refl _) (Nat.le_refl _) hRcells hRslots
  obtain ⟨s', hA'⟩ : ∃ z, z = (T.setVm s.vm).setFrames (.invoking m args :: below) := ⟨_, rfl⟩
  rw [← hA'] at Y
  have hvm : s'.vm = s.vm := by rw [hA']; rfl
  have hhp : s'.heap = T.heap := by rw [hA']; rfl
  have hW0 : s.WarmedH s'.vm := by rw [hvm]; exact State.WarmedH.refl s
  have hat' : ∀ w ∈ vn_at own ic cls ix rx names, w.before args s' = true := fun w hw => vx_ot_at hW0 hvm.symm (hgood w (List.mem_cons_of_mem _ (List.mem_cons_of_mem _ hw))) (hat w hw)
  have hk' : (Cond.classLink own ik cls).before args s' = true := vx_ot_at hW0 hvm.symm (hgood _ List.mem_cons_self) hk
  have hini' : (Cond.initialized cls).before args s' = true := vx_ot_at hW0 hvm.symm (hgood _ (List.mem_cons_of_mem _ List.mem_cons_self)) hini
  have hU' : vx_Zq Bundle.tN "UNASSIGNED_STACK" Bundle.steD A s' s'.heap := by rw [hhp]; exact vx_Zq.moved hW0.alike (hU.kept hS.2.1)
  have hN' : vx_Zq Bundle.tN "SUPPRESSED_SENTINEL" Bundle.listD A s' s'.heap := by rw [hhp]; exact vx_Zq.moved hW0.alike (hN.kept hS.2.1)
  have h : ∀ w ∈ vn_own own ic cls ix rx names, w.before args s' = true := vx_own hat' (vx_isRefq hU'.1) (vx_isRefq hN'.1) hU'.2.word hN'.2.word
  have hown' : s'.vm.findClass own = some m.cls := by rw [hvm]; exact hown
  have hins : (Cond.instantiable cls 6).before args s' = true := h _ (by simp [vn_own])
  obtain ⟨vm₁, cX, kX, hfX, hkX, -, -, X₁, st1⟩ := Y.newCold hexec (own := own) (C := cls) (index := ik) (n := 6) hown' hk' hins hini'
    (g := F0 m pc ls rest) rfl (by rw [hb]; exact d0) (Nat.le_refl _) (Nat.le_refl _)
  generalize hT1 : (T.setVm vm₁).pushCell { cls := cX, slots := kX.instanceTypes.map defaultValue, vm := .none } = T1 at X₁ st1
  have hcat : (Value.ref T.heap.size).category = 1 := rfl
  have hcellA : T1.heap[T.heap.size]? = some (freshCell cX kX) := by rw [← hT1]; exact State.heap_pushCell_size _ _
  have d3' : decode c.code (pc + 3) = .ok (.dup, 1) := by rw [hb]; exact d3
  have d4' : decode c.code (pc + 4) = .ok (.ldc_w is, 3) := by rw [hb]; exact d4
  have hstr' : vk_R own is text sa s' := vk_R.warm hW0 hstr
  obtain ⟨V, ce, L, Z, hL, hlt, hcl9, hvm9, st⟩ := vn_ctorMade X₁ hexec htr x0 x1 x2 x5 (own := own) (cls := cls) (names := names) (ic := ic) hown' hcls hnames h (fun x hx => nomatch hx) hfX hkX hcellA (by rw [hhp]; exact Nat.le_refl _) (msg := .ref sa) rfl
    (g := { method := m, pc := pc + 7, locals := ls, stack := .ref sa :: .ref T.heap.size :: .ref T.heap.size :: rest, locked := none }) rfl hsize (rest := rest) rfl
    (by rw [hb]; exact d6) hRframes (by simp only [List.map_cons, List.sum_cons, hcat]; omega)
  have Z0 := Stand.forget (locs := []) Z (fun y hy => by rw [hL y hy, hhp]; exact Nat.le_refl _)
  obtain ⟨f1, f2⟩ := vx_frame Z0.same
  rw [hhp] at f1 f2
  have hcid : s.vm.findClass cls = some ce.cls := by
    rw [hcl9]
    rw [hvm] at hfX
    exact hfX
  have hh : (V.setCell T.heap.size ce).heap[T.heap.size]? = some ce := heapAt_setCell_self (s := V) ce hlt
  subst hA'
  have X5 := vx_back9 X Y Z0
  have X6 : Stand p l e R s m args below meth c (V.setCell T.heap.size ce) locs (cells + 1) (slots + 6) := { X5 with same := X5.same.mono (by omega) (by omega) }
  obtain ⟨t, a1, b1⟩ := kk T.heap.size (V.setCell T.heap.size ce).heap ce hh hvm9 hcid f1 (fun q h1 => f2 q h1 (fun z hz => nomatch hz)) _ rfl X6
  refine ⟨t, st1 _ ?_, b1⟩
  show Steps p.tables e below (T1.setTop { method := m, pc := pc + 3, locals := ls, stack := .ref T.heap.size :: rest, locked := none }) _
  jvm_step X₁.here [X₁.here.top, hexec, d3', Value.category]
  exact X₁.ldcStringW hexec (own := own) (text := text) (index := is) (a := sa) hown' hstr'.1 hstr'.2
    (g := { method := m, pc := pc + 4, locals := ls, stack := .ref T.heap.size :: .ref T.heap.size :: rest, locked := none }) rfl d4' _ (st _ a1)
end VNK2
end
section
/-! a method's contract out of its walk; handlers -/
theorem lv_args_tv (ad : Nat → Nat) : ∀ (as : List Value) (i : Nat), lv_args i (as.map (tv ad)) = tl ad (lv_args i as)
  | [], _ => rfl
  | v :: vs, i => by
    rw [List.map_cons]
    unfold lv_args
    rw [tv_cat, lv_args_tv ad vs]
    rfl
theorem lg_sl_tv (ad : Nat → Nat) : ∀ (as : List Value), (lg_sl (as.map (tv ad))).length = (lg_sl as).length
  | [] => rfl
  | v :: vs => by
    have ih := lg_sl_tv ad vs
    simp only [lg_sl, List.map_cons, List.flatMap_cons, List.length_append] at ih ⊢
    rw [ih, tv_cat]
    by_cases h : v.category = 2
    · rw [if_pos h, if_pos h]; rfl
    · rw [if_neg h, if_neg h]; rfl
def exX (en : Nat) : Nat := if en = 4 then 13 else 7
def exR (en : Nat) : ByteArray := if en = 4 then ⟨#[0x2a, 0x2b, 0xb7, 0x00, 0x0d, 0xb1]⟩ else Bundle.six
abbrev exW (en : Nat) : List Cond := vn_at "Plotwise" (exI.getD en 0) (exN.getD en "") (exX en) (exR en) ["java/lang/RuntimeException", "java/lang/Exception"]
def atB (en : Nat) : Bool := (exW en).all (fun w => decide (w ∈ tables_1) && (goodWord w || isNG w) && vx_ot w) && Bundle.fit (exN.getD en "") && decide (Cond.initialized (exN.getD en "") ∈ tables_1) && goodWord (Cond.initialized (exN.getD en "")) && decide (Cond.castable (exN.getD en "") (exN.getD en "") ∈ tables_1) && (decide (decode (exR en) 0 = .ok (.aload_n 0, 1)) && decide (decode (exR en) 1 = .ok (.aload_n 1, 1)) && decide (decode (exR en) 2 = .ok (.invokespecial (exX en), 3)) && decide (decode (exR en) 5 = .ok (.return_, 1)))
set_option maxRecDepth 100000 in
theorem at0 : atB 0 = true := by decide +kernel
set_option maxRecDepth 100000 in
theorem at1 : atB 1 = true := by decide +kernel
set_option maxRecDepth 100000 in
theorem at2 : atB 2 = true := by decide +kernel
set_option maxRecDepth 100000 in
theorem at3 : atB 3 = true := by decide +kernel
set_option maxRecDepth 100000 in
theorem at4 : atB 4 = true := by decide +kernel
set_option maxRecDepth 100000 in
theorem at5 : atB 5 = true := by decide +kernel
theorem at_ok (en : Nat) (h : en < 6) : atB en = true := by
  match en, h with
  | 0, _ => exact at0
  | 1, _ => exact at1
  | 2, _ => exact at2
  | 3, _ => exact at3
  | 4, _ => exact at4
  | 5, _ => exact at5
  | en + 6, h => exact absurd h (by omega)
section ENDS
variable {X : XS} {mi : Nat} {h : AH} {Q : AO → AH → Prop} {as : List Value} {p : Program} {l : Launch} {e : Env} {s : State} {m : MethodId} {args : Array Value} {below : List Frame} {meth : Method} {c : Code} {β : Nat} {D : va_G} {dA : Nat → ClassId} {ad0 sa : Nat → Nat} {n0 : Nat}
theorem fin1 (hx : p.tables.exec = Jvm.exec) (hb : c.code = mB mi) (hr : meth.sig.returnType = mR mi) (hlk : meth.locks = false) : Fin1 mi Q n0 p l e (mRm mi) s m args below meth c β D dA ad0 (vx_MQ below (CQ mi n0 β D dA ad0 Q) (CX mi n0 β D dA ad0 Q) args s (mC mi) (mS mi) (fun q : Nat => β ≤ q)) := by
  intro v h ad H locs cells slots pc ls ins hQ hret d ha hn hR hc hs
  refine W.widen hc hs (vx_ret ?_)
  have hq : ∀ (o : Option Value), o = v.map (tv ad) → ∀ t : State, t.heap = H → s.WarmedH t.vm → CQ mi n0 β D dA ad0 Q args s (.returned o) t := fun o ho t ht hW =>
    ⟨⟨v, h, ad, by rw [ho], hQ, ha, hn, by rw [ht]; exact hR.1, hR.2.1⟩, hR.2.2.F ht⟩
  cases ins with
  | return_ =>
    obtain ⟨rfl, h2⟩ := hret
    exact W.vret hx hb (hr.trans h2) (hq none rfl) hR.2.2.2.2 d hlk
  | ireturn =>
    obtain ⟨x, rfl, ty, h2, h3⟩ := hret
    exact W.zret hx hb (hr.trans h2) h3 (hq _ rfl) hR.2.2.2.2 d hlk
  | lreturn =>
    obtain ⟨x, rfl, h2⟩ := hret
    exact W.lret hx hb (hr.trans h2) (hq _ rfl) hR.2.2.2.2 d hlk
  | freturn =>
    obtain ⟨x, rfl, h2⟩ := hret
    exact W.fret hx hb (hr.trans h2) (hq _ rfl) hR.2.2.2.2 d hlk
  | dreturn =>
    obtain ⟨x, rfl, h2⟩ := hret
    exact W.dret hx hb (hr.trans h2) (hq _ rfl) hR.2.2.2.2 d hlk
  | areturn =>
    obtain ⟨x, rfl, rt, h2, h3⟩ := hret
    exact W.aret hx hb (hr.trans h2) h3 (Or.inr ⟨_, rfl⟩) (hq _ rfl) hR.2.2.2.2 d hlk
  | _ => exact False.elim hret
theorem fin2 (ht : c.exceptionTable.toList = tableOf (mH mi)) (hlk : meth.locks = false) : Fin2 mi Q n0 p l e (mRm mi) s m args below meth c β D dA ad0 (vx_MQ below (CQ mi n0 β D dA ad0 Q) (CX mi n0 β D dA ad0 Q) args s (mC mi) (mS mi) (fun q : Nat => β ≤ q)) := by
  intro en h ad H locs cells slots pc ls rest q ce hQ hmH ha hn hR hc hs hce hcv hcl
  refine vx_out (E := exN.getD en "") (fun x hx => ?_) hlk hce hcv hcl (fun t ht hW => ⟨⟨en, h, ad, rfl, hQ, ha, hn, by rw [ht]; exact hR.1, hR.2.1⟩, hR.2.2.F ht⟩) hR.2.2.2.2 hc hs
  rw [ht, hmH] at hx
  cases hx
theorem fin3 (hx : p.tables.exec = Jvm.exec) (hb : c.code = mB mi) (hml : c.maxLocals = mL mi) (hown : s.vm.findClass (mY mi).cls = some m.cls) (hts : ∀ w ∈ XU, w.before args s = true) (hst : l.stackTraces = false) (hsw : SW X β D dA ad0 sa s s.heap) (hm : mi < 151) (ht : c.exceptionTable.toList = tableOf (mH mi)) (hlk : meth.locks = false) : Fin3 mi Q n0 p l e (mRm mi) s m args below meth c β D dA ad0 (vx_MQ below (CQ mi n0 β D dA ad0 Q) (CX mi n0 β D dA ad0 Q) args s (mC mi) (mS mi) (fun q : Nat => β ≤ q)) := by
  intro en si h ad H locs cells slots pc ls rest hQ hth ha hn hR hsz hrest hc hs
  obtain ⟨ik, is, tx, hen, hsi, hcls, hmH, hv, hik, hdn, d0, d3, dd⟩ := hth
  have hat := at_ok en hen
  simp only [atB, Bool.and_eq_true, decide_eq_true_eq] at hat
  obtain ⟨⟨⟨⟨⟨hat1, hat2⟩, hat3⟩, hat4⟩, -⟩, ⟨⟨z0, z1⟩, z2⟩, z5⟩ := hat
  have hat1' : ∀ w ∈ exW en, (w ∈ tables_1 ∧ (goodWord w = true ∨ isNG w = true)) ∧ vx_ot w = true := fun w hw => by
    have := List.all_eq_true.mp hat1 w hw
    simpa only [Bool.and_eq_true, decide_eq_true_eq, Bool.or_eq_true] using this
  have hlink := lk_bef (args := args) (by omega : mi < 152) (show (lks (mD mi)).contains (ik, 5, 100 + en, 0) = true by simpa using hik) (Nat.le_of_ble_eq_true rfl) hts
  simp only [lkw] at hlink
  rw [if_neg (by omega), show 100 + en - 100 = en by omega, hdn, hcls] at hlink
  have hini : (Cond.initialized (exN.getD en "")).before args s = true := hts _ (xu_t hat3 hat4)
  have hstr := hsw.2.2.2.1 si _ hsi
  rw [hcls] at hstr
  have hat5 : ∀ w ∈ exW en, w.before args s = true := fun w hw => by
    obtain ⟨⟨h1, h2⟩, h3⟩ := hat1' w hw
    rcases h2 with h2 | h2
    · exact hts _ (xu_t h1 h2)
    · have hng := hsw.2.2.2.2.2.2.1 w (List.mem_filter.mpr ⟨h1, h2⟩)
      exact va_Nw.use (by cases w <;> first | rfl | (simp [isNG] at h2)) hng
  have hgood : ∀ w ∈ Cond.classLink "Plotwise" ik (exN.getD en "") :: Cond.initialized (exN.getD en "") :: exW en, vx_ot w = true := fun w hw => by
    rcases List.mem_cons.mp hw with rfl | hw
    · rfl
    · rcases List.mem_cons.mp hw with rfl | hw
      · rfl
      · exact (hat1' w hw).2
  have hown' : s.vm.findClass "Plotwise" = some m.cls := by rw [← hcls]; exact hown
  have hend : ∀ (pc' : Nat), decode (mB mi) pc' = .ok (.athrow, 1) → ∀ (q : Nat) (H1 : Heap) (ce : Cell), H1[q]? = some ce → ce.vm = .none → s.vm.findClass (exN.getD en "") = some ce.cls → H.size ≤ H1.size → (∀ a : Nat, a < H.size → H1[a]? = H[a]?) → W p l e (mRm mi) s m args below meth c H1 locs (cells + 1) (slots + 6) (vx_MQ below (CQ mi n0 β D dA ad0 Q) (CX mi n0 β D dA ad0 Q) args s (mC mi) (mS mi) (fun q : Nat => β ≤ q)) (F0 m pc' ls (.ref q :: rest)) := by
    intro pc' d9 q H1 ce h1 h2 h3 h4 h5
    refine vx_athrow hx hb d9 ?_
    have hS1 : va_S (fun q : Nat => β ≤ q) s.heap H1 locs := ⟨Nat.le_trans hR.2.2.1 h4, fun q h6 h7 => (h5 q (Nat.lt_of_lt_of_le h6 hR.2.2.1)).trans (hR.2.2.2.1 q h6 h7), hR.2.2.2.2⟩
    refine vx_out (E := exN.getD en "") (fun x hx => ?_) hlk h1 h2 h3 (fun t ht2 hW => ⟨⟨en, h, ad, rfl, hQ, ha, hn, by rw [ht2]; exact hR.1.kept (fun k q hk => h5 q.1 (hR.1 k q hk).lt), hR.2.1⟩, hS1.F ht2⟩) hR.2.2.2.2 hc hs
    rw [ht, hmH] at hx
    cases hx
  have hfr : ["java/lang/RuntimeException", "java/lang/Exception"].length + 3 < (mRm mi).frames := by
    show 2 + 3 < mV mi
    omega
  have hlo : (rest.map fun v => v.category).sum + (13 * (["java/lang/RuntimeException", "java/lang/Exception"].length + 1) + 43) ≤ (mRm mi).locals := by
    show (rest.map fun v => v.category).sum + (13 * (2 + 1) + 43) ≤ 64 * mV mi
    omega
  rcases dd with ⟨d4, d6, d9⟩ | ⟨d4, d7, d10⟩
  · exact vn_throw hx hb hst z0 z1 z2 z5 hown' hat2 (by decide) hlink hini hstr hat5 hgood hsw.2.2.2.2.1 hsw.2.2.2.2.2.1 hR.2.2 (hsz.trans hml.symm) d0 d3 d4 d6 hfr hlo hc hs (hend _ d9)
  · exact vn_throwW hx hb hst z0 z1 z2 z5 hown' hat2 (by decide) hlink hini hstr hat5 hgood hsw.2.2.2.2.1 hsw.2.2.2.2.2.1 hR.2.2 (hsz.trans hml.symm) d0 d3 d4 d7 hfr hlo hc hs (hend _ d10)
theorem plain_ok {mi : Nat} (h : mi < 151) : plainName (mY mi).cls = true := by
  have h1 := (yw mi h).1
  simp only [yb, Bool.and_eq_true] at h1
  exact h1.1.1.1.1.1.1
/-- a method without handlers -/
theorem call_of (hm : mi < 151) (hH : mH mi = []) (hlen : Nat.ble (lg_sl as).length (mL mi) = true) (k : AW (X.1, h.length) mi 0 (lv_args 0 as) [] h (mC mi) (mS mi) Q) : Call X mi as h Q := by
  intro l β D dA ad sa hst
  refine vx_ofW (cc := mB mi) (maxL := mL mi) (ret := mR mi) (plain_ok hm) (by rw [mW_code hH]) ?_
  intro p e s m args below meth c s₁ B hml ht hv
  obtain ⟨rfl, hsw, hβ, hP, hD⟩ := hv
  have hts0 := atoms_spec (ws := mW mi :: XU) B.pre
  have hts : ∀ w ∈ XU, w.before _ s = true := fun w hw => hts0 w (List.mem_cons_of_mem _ hw)
  have htab : c.exceptionTable.toList = tableOf (mH mi) := by
    rw [hH]
    cases hc : c.exceptionTable.toList with
    | nil => rfl
    | cons x xs => exact absurd (ht x (by rw [hc]; exact List.mem_cons_self)) (fun z => z)
  have hle : (lg_sl (as.map (tv ad))).length ≤ mL mi := by rw [lg_sl_tv]; exact Nat.le_of_ble_eq_true hlen
  have hl := lv_entry (as.map (tv ad)) (n := mL mi) hle
  rw [lv_args_tv] at hl
  rw [lg_entry_eq]
  have C : Cx (X.1, h.length) mi Q h.length p l e (mRm mi) s m (as.map (tv ad)).toArray below meth c β D dA ad sa (vx_MQ below (CQ mi h.length β D dA ad Q) (CX mi h.length β D dA ad Q) (as.map (tv ad)).toArray s (mC mi) (mS mi) (fun q : Nat => β ≤ q)) :=
    ⟨B.exec, B.bytes, hml, findClass_of_methodNamed B.named, hts, hst, hsw, hβ, fun z => (name_of_methodNamed B.named B.method).1.trans z, ⟨Nat.le_refl _, Nat.le_refl _⟩, htab, fin1 B.exec B.bytes B.returns B.notSynchronized, fin2 htab B.notSynchronized, fin3 B.exec B.bytes hml (findClass_of_methodNamed B.named) hts hst hsw hm htab B.notSynchronized, rfl⟩
  exact k h.length p l e (mRm mi) s m _ below meth c β D dA ad sa _ C ad s.heap [] 0 0 _ (adOk.rf _ _ _) (Nat.le_refl _) ⟨hP, hD, va_S.rf⟩ hl (Nat.le_of_eq (Nat.zero_add _)) (Nat.le_of_eq (Nat.zero_add _))
/-- a method with handlers -/
theorem call_ofH (hm : mi < 151) (hH : ¬ mH mi = []) (hlen : Nat.ble (lg_sl as).length (mL mi) = true) (k : AW (X.1, h.length) mi 0 (lv_args 0 as) [] h (mC mi) (mS mi) Q) : Call X mi as h Q := by
  intro l β D dA ad sa hst
  refine vx_ofWH (cc := mB mi) (maxL := mL mi) (ret := mR mi) (hh := mH mi) (plain_ok hm) (by rw [mW_with hH]) ?_
  intro p e s m args below meth c s₁ B hml hv
  obtain ⟨rfl, hsw, hβ, hP, hD⟩ := hv
  have hts0 := atoms_spec (ws := mW mi :: XU) B.pre
  have hts : ∀ w ∈ XU, w.before _ s = true := fun w hw => hts0 w (List.mem_cons_of_mem _ hw)
  have htab : c.exceptionTable.toList = tableOf (mH mi) := vx_table (x := mY mi) B (by rw [← mW_with hH]; exact hts0 _ List.mem_cons_self)
  have hle : (lg_sl (as.map (tv ad))).length ≤ mL mi := by rw [lg_sl_tv]; exact Nat.le_of_ble_eq_true hlen
  have hl := lv_entry (as.map (tv ad)) (n := mL mi) hle
  rw [lv_args_tv] at hl
  rw [lg_entry_eq]
  have C : Cx (X.1, h.length) mi Q h.length p l e (mRm mi) s m (as.map (tv ad)).toArray below meth c β D dA ad sa (vx_MQ below (CQ mi h.length β D dA ad Q) (CX mi h.length β D dA ad Q) (as.map (tv ad)).toArray s (mC mi) (mS mi) (fun q : Nat => β ≤ q)) :=
    ⟨B.exec, B.bytes, hml, findClass_of_methodNamed B.named, hts, hst, hsw, hβ, fun z => (name_of_methodNamed B.named B.method).1.trans z, ⟨Nat.le_refl _, Nat.le_refl _⟩, htab, fin1 B.exec B.bytes B.returns B.notSynchronized, fin2 htab B.notSynchronized, fin3 B.exec B.bytes hml (findClass_of_methodNamed B.named) hts hst hsw hm htab B.notSynchronized, rfl⟩
  exact k h.length p l e (mRm mi) s m _ below meth c β D dA ad sa _ C ad s.heap [] 0 0 _ (adOk.rf _ _ _) (Nat.le_refl _) ⟨hP, hD, va_S.rf⟩ hl (Nat.le_of_eq (Nat.zero_add _)) (Nat.le_of_eq (Nat.zero_add _))
end ENDS
end
section
/-! making cells; a static row cloned -/
def dfl (a : Nat) : List Value := (List.range (kC a).2.2).map (fun j => defaultValue (kT a j))
theorem tv_dfl (ad : Nat → Nat) (a : Nat) : (dfl a).map (tv ad) = dfl a := by
  unfold dfl
  rw [List.map_map]
  refine List.map_congr_left (fun j _ => ?_)
  show tv ad (defaultValue (kT a j)) = defaultValue (kT a j)
  cases kT a j <;> rfl
theorem dfl_V (a j : Nat) (hj : j < (kC a).2.2) : defaultValue (kT a j) = vp_V (dfl a) j := by
  unfold vp_V dfl
  rw [List.getD_eq_getElem?_getD, List.getElem?_map, List.getElem?_range hj]
  rfl
theorem cW_push {dA : Nat → ClassId} {ad : Nat → Nat} {h : AH} {c : AC} {q : Nat} {e : va_E} (hw : h.all (wfc h.length) = true) (hlt : h.length < 1000) (he : cE dA (fun k => if k = h.length then q else ad k) c = e) : cW dA (fun k => if k = h.length then q else ad k) (h ++ [c]) = cW dA ad h ++ [(q, e)] := by
  have e1 : ∀ k, (k < h.length ∨ 1000 ≤ k) → (fun k => if k = h.length then q else ad k) k = ad k := fun k hk => if_neg (by omega)
  have h1 : cW dA (fun k => if k = h.length then q else ad k) h = cW dA ad h := wfh_cW hw e1
  rw [← h1]
  unfold cW
  rw [List.mapIdx_append]
  congr 1
  simp [he]
section ALLOC
variable {X : XS} {mi pc : Nat} {lv : List (Nat × Value)} {rest : List Value} {h : AH} {bc bs : Nat} {Q : AO → AH → Prop}
def wfa (h : AH) (lv : List (Nat × Value)) (st : List Value) : Bool := h.all (wfc h.length) && lv.all (fun q => wfv h.length q.2) && st.all (wfv h.length)
theorem grow {n0 : Nat} {p : Program} {l : Launch} {e : Env} {R : Room} {s : State} {m : MethodId} {args : Array Value} {below : List Frame} {meth : Method} {c : Code} {β : Nat} {D : va_G} {dA : Nat → ClassId} {ad0 sa : Nat → Nat} {Qf : State → Prop} {c0 : AC} {pc' kn N : Nat} {ad : Nat → Nat} {H1 : Heap} {locs : List Loc} {cells slots : Nat} {ls : Array Slot} {q : Nat} {ent : va_E}
    (C : Cx X mi Q n0 p l e R s m args below meth c β D dA ad0 sa Qf) (hm : mA mi = 1) (hk : h.length = kn) (hlt : kn < 1000) (hwf : wfa h lv rest = true) (hb : 1 ≤ bc ∧ N ≤ bs) (ha : adOk mi n0 ad0 ad) (hn : n0 ≤ h.length) (hl : lv_has ls (mL mi) (tl ad lv)) (hc : cells + bc ≤ R.cells) (hs : slots + bs ≤ R.slots)
    (he : cE dA (fun k => if k = h.length then q else ad k) c0 = ent) (hP : va_P D kcl (cW dA ad h ++ [(q, ent)]) H1) (hD : va_D (fun q : Nat => β ≤ q) (cW dA ad h ++ [(q, ent)])) (hS : va_S (fun q : Nat => β ≤ q) s.heap H1 locs)
    (k : AW X mi pc' lv (.ref kn :: rest) (h ++ [c0]) (bc - 1) (bs - N) Q) : W p l e R s m args below meth c H1 locs (cells + 1) (slots + N) Qf (F0 m pc' ls (.ref q :: rest.map (tv ad))) := by
  subst hk
  simp only [wfa, Bool.and_eq_true] at hwf
  obtain ⟨⟨w1, w2⟩, w3⟩ := hwf
  have e1 : ∀ k, (k < h.length ∨ 1000 ≤ k) → (fun k => if k = h.length then q else ad k) k = ad k := fun k hk => if_neg (by omega)
  rw [← cW_push w1 hlt he] at hP hD
  have kk := k n0 p l e R s m args below meth c β D dA ad0 sa Qf C (fun k => if k = h.length then q else ad k) H1 locs (cells + 1) (slots + N) ls ⟨fun z => (absurd (hm.symm.trans z) (by decide)), fun k hk => (e1 k (hk.imp (fun y => Nat.lt_of_lt_of_le y hn) (fun z => z))).trans (ha.2 k hk)⟩ (by rw [List.length_append]; omega) ⟨hP, hD, hS⟩ (by rw [wfl_tl w2 e1]; exact hl) (by omega) (by omega)
  rw [List.map_cons, wfs_tv w3 e1] at kk
  have e2 : tv (fun k => if k = h.length then q else ad k) (.ref h.length) = .ref q := by simp [tv]
  rw [e2] at kk
  exact kk
def nwB (mi pc i a : Nat) : Bool := decide (mi < 152) && decide (decode (mB mi) pc = .ok (.new i, 3)) && (lks (mD mi)).contains (i, 5, a, 0) && decide (a < 8) && decide (mA mi = 1)
theorem a_new {i a kn : Nat} (q : nwB mi pc i a = true) (hk : h.length = kn) (hlt : Nat.ble (kn + 1) 1000 = true) (hwf : wfa h lv rest = true) (hb : Nat.ble 1 bc = true ∧ Nat.ble (kC a).2.2 bs = true) (k : AW X mi (pc + 3) lv (.ref kn :: rest) (h ++ [.inl (a, dfl a)]) (bc - 1) (bs - (kC a).2.2) Q) : AW X mi pc lv rest h bc bs Q := by
  intro n0 p l e R s m args below meth c β D dA ad0 sa Qf C ad H locs cells slots ls ha hn hR hl hc hs
  simp only [nwB, Bool.and_eq_true, decide_eq_true_eq] at q
  obtain ⟨⟨⟨⟨hm, d⟩, hlk⟩, ha9⟩, hA⟩ := q
  obtain ⟨hk1, hk2, hk3, -, hk5, hk6, -⟩ := kok a ha9
  have hlink := lk_bef hm hlk (Nat.le_of_ble_eq_true rfl) C.2.2.2.2.1
  simp only [lkw] at hlink
  rw [dN_ok2 mi hm, if_pos (by omega)] at hlink
  have b1 := Nat.le_of_ble_eq_true hb.1
  have b2 := Nat.le_of_ble_eq_true hb.2
  refine va_new C.1 C.2.1 C.2.2.2.2.1 hk2 (kT a) hk3 C.2.2.2.1 hlink (C.2.2.2.2.1 _ hk5) (C.2.2.2.2.1 _ hk6) C.2.2.2.2.2.2.1.1 hR.1 hR.2.1 hR.2.2 (fun q h1 => Nat.le_trans C.2.2.2.2.2.2.2.1 h1) hk1 (fs := dfl a) (fun j hj => dfl_V a j hj) (by omega) (by omega) d (fun q H1 hP1 hD1 hS1 => ?_)
  exact grow C hA hk (Nat.le_of_ble_eq_true hlt) hwf ⟨b1, b2⟩ ha hn hl hc hs (by simp only [cE]; rw [tv_dfl]) hP1 hD1 hS1 k
def zc (a : Nat) : (Nat → Int32) ⊕ (Nat → Int64) ⊕ (Nat → UInt32) ⊕ (Nat → UInt64) ⊕ (Nat → Option Nat) := match a with
  | 1 => .inr (.inl (fun _ => 0))
  | _ => .inl (fun _ => 0)
def naB (mi pc a : Nat) : Bool := decide (mi < 152) && decide (decode (mB mi) pc = .ok (.newarray (aTy a), 2)) && decide (a < 3) && decide (mA mi = 1)
theorem ac_ok (a : Nat) (h : a < 3) : Cond.arrayClass (aty a) ∈ XU := by
  match a, h with
  | 0, _ => exact xu_t (by decide +kernel) rfl
  | 1, _ => exact xu_t (by decide +kernel) rfl
  | 2, _ => exact xu_t (by decide +kernel) rfl
  | a + 3, h => exact absurd h (by omega)
theorem aTy_ok (a : Nat) : newarray.typeOf (aTy a) = aty a := by
  unfold aTy aty
  split <;> rfl
theorem zc_ok (a N : Nat) (h : a < 3) (cA : ClassId) : vp_cell cA (N, zc a) = arrV cA N (fun _ => defaultValue (aty a)) := by
  match a, h with
  | 0, _ => rfl
  | 1, _ => rfl
  | 2, _ => rfl
  | a + 3, h => exact absurd h (by omega)
theorem tyl_at (dA : Nat → ClassId) (a : Nat) (h : a < 3) : (tyl dA)[a]? = some (dA a, aty a) := by
  match a, h with
  | 0, _ => rfl
  | 1, _ => rfl
  | 2, _ => rfl
  | a + 3, h => exact absurd h (by omega)
theorem ra_one {U : State} {c1 c2 : ClassId} {a : Nat} (h : a < 3) (h1 : va_RA U c1 (aty a)) (h2 : va_RA U c2 (aty a)) : c1 = c2 := by
  match a, h with
  | 0, _ => exact Option.some.inj (h1.symm.trans h2)
  | 1, _ => exact Option.some.inj (h1.symm.trans h2)
  | 2, _ => exact Option.some.inj (h1.symm.trans h2)
  | a + 3, h => exact absurd h (by omega)
theorem a_newarray {a kn N : Nat} {n : Int32} (q : naB mi pc a = true) (hnn : ¬ n < 0) (hN : n.toNatClampNeg = N) (hN2 : Nat.ble N 100000 = true) (hk : h.length = kn) (hlt : Nat.ble (kn + 1) 1000 = true) (hwf : wfa h lv rest = true) (hb : Nat.ble 1 bc = true ∧ Nat.ble N bs = true) (k : AW X mi (pc + 2) lv (.ref kn :: rest) (h ++ [.inr (a, N, zc a)]) (bc - 1) (bs - N) Q) : AW X mi pc lv (.int n :: rest) h bc bs Q := by
  intro n0 p l e R s m args below meth c β D dA ad0 sa Qf C ad H locs cells slots ls ha hn hR hl hc hs
  simp only [naB, Bool.and_eq_true, decide_eq_true_eq] at q
  obtain ⟨⟨⟨hm, d⟩, ha5⟩, hA⟩ := q
  have b1 := Nat.le_of_ble_eq_true hb.1
  have b2 := Nat.le_of_ble_eq_true hb.2
  have b3 := Nat.le_of_ble_eq_true hN2
  refine va_newa (ty := aty a) (a0 := (N, zc a)) C.1 C.2.1 (by rw [aTy_ok]; exact C.2.2.2.2.1 _ (ac_ok a ha5)) (aTy_ok a) C.2.2.2.2.2.2.1.1 hR.1 hR.2.1 hR.2.2 (fun q h1 => Nat.le_trans C.2.2.2.2.2.2.2.1 h1) (fun cA => zc_ok a N ha5 cA) hnn hN (by
    have : componentBytes (aty a) ≤ 8 := by
      match a, ha5 with
      | 0, _ => decide
      | 1, _ => decide
      | 2, _ => decide
      | a + 3, h => exact absurd h (by omega)
    calc N * componentBytes (aty a) ≤ 100000 * 8 := Nat.mul_le_mul b3 this
      _ ≤ 536870912 := by decide) (by omega) (by omega) d (fun q cA H1 hK1 hP1 hD1 hS1 => ?_)
  have hcA : cA = dA a := by
    have h1 := (hK1.2 (tyl dA).length (cA, aty a) (by rw [List.getElem?_append_right (Nat.le_refl _), Nat.sub_self]; rfl)).2
    have h2 := (C.2.2.2.2.2.2.1.1.2 a _ (tyl_at dA a ha5)).2
    exact ra_one ha5 h1 h2
  subst hcA
  exact grow (c0 := .inr (a, N, zc a)) C hA hk (Nat.le_of_ble_eq_true hlt) hwf ⟨b1, b2⟩ ha hn hl hc hs rfl hP1 hD1 hS1 k
theorem a_objInit {i o : Nat} (q : (decide (mi < 152) && decide (decode (mB mi) pc = .ok (.invokespecial i, 3)) && (lks (mD mi)).contains (i, 2, 0, 0) && decide (1 ≤ mV mi)) = true) (hw : Nat.ble (rest.map fun v => v.category).sum 8 = true) (k : AW X mi (pc + 3) lv rest h bc bs Q) : AW X mi pc lv (.ref o :: rest) h bc bs Q := by
  intro n0 p l e R s m args below meth c β D dA ad0 sa Qf C ad H locs cells slots ls ha hn hR hl hc hs
  simp only [Bool.and_eq_true, decide_eq_true_eq] at q
  obtain ⟨⟨⟨hm, d⟩, hlk⟩, hv⟩ := q
  have hlink := lk_bef hm hlk (Nat.le_of_ble_eq_true rfl) C.2.2.2.2.1
  simp only [lkw] at hlink
  rw [dN_ok2 mi hm] at hlink
  have hrest : ((rest.map (tv ad)).map fun v => v.category).sum ≤ 8 := by
    rw [List.map_map]
    have := Nat.le_of_ble_eq_true hw
    simpa [Function.comp_def, tv_cat] using this
  have hfr := C.2.2.2.2.2.2.2.2.2.1
  refine W.objInit C.1 C.2.1 C.2.2.2.1 hlink (C.2.2.2.2.1 _ (xu_t (by decide +kernel) (by decide +kernel))) (C.2.2.2.2.1 _ (xu_t (by decide +kernel) (by decide +kernel))) rfl (by rw [C.2.2.1]; exact hl.1) rfl d (by omega) (by show 2 * 0 + ((rest.map (tv ad)).map fun v => v.category).sum + 12 ≤ R.locals; omega) ?_
  exact k n0 p l e R s m args below meth c β D dA ad0 sa Qf C ad H locs cells slots ls ha hn hR hl hc hs
theorem a_mmax {i : Nat} {x y : Int32} (q : (decide (mi < 152) && decide (decode (mB mi) pc = .ok (.invokestatic i, 3)) && (lks (mD mi)).contains (i, 3, 1, 0) && decide (1 ≤ mV mi)) = true) (hw : Nat.ble (rest.map fun v => v.category).sum 8 = true) (k : AW X mi (pc + 3) lv (.int (if x < y then y else x) :: rest) h bc bs Q) : AW X mi pc lv (.int y :: .int x :: rest) h bc bs Q := by
  intro n0 p l e R s m args below meth c β D dA ad0 sa Qf C ad H locs cells slots ls ha hn hR hl hc hs
  simp only [Bool.and_eq_true, decide_eq_true_eq] at q
  obtain ⟨⟨⟨hm, d⟩, hlk⟩, hv⟩ := q
  have hlink := lk_bef hm hlk (Nat.le_of_ble_eq_true rfl) C.2.2.2.2.1
  simp only [lkw] at hlink
  rw [dN_ok2 mi hm] at hlink
  have hrest : ((rest.map (tv ad)).map fun v => v.category).sum ≤ 8 := by
    rw [List.map_map]
    have := Nat.le_of_ble_eq_true hw
    simpa [Function.comp_def, tv_cat] using this
  have hfr := C.2.2.2.2.2.2.2.2.2.1
  refine va_mmax C.1 C.2.1 (by rw [C.2.2.1]; exact hl.1.symm) C.2.2.2.1 hlink (C.2.2.2.2.1 _ (xu_t (by decide +kernel) (by decide +kernel))) (C.2.2.2.2.1 _ (xu_t (by decide +kernel) (by decide +kernel))) (C.2.2.2.2.1 _ (xu_t (by decide +kernel) (by decide +kernel))) (by omega) (by omega) (by omega) (by omega) d ?_
  exact k n0 p l e R s m args below meth c β D dA ad0 sa Qf C ad H locs cells slots ls ha hn hR hl hc hs
theorem a_lmax {i : Nat} {x y : Int64} (q : (decide (mi < 152) && decide (decode (mB mi) pc = .ok (.invokestatic i, 3)) && (lks (mD mi)).contains (i, 3, 2, 0) && decide (1 ≤ mV mi)) = true) (hw : Nat.ble (rest.map fun v => v.category).sum 8 = true) (k : AW X mi (pc + 3) lv (.long (if y < x then x else y) :: rest) h bc bs Q) : AW X mi pc lv (.long y :: .long x :: rest) h bc bs Q := by
  intro n0 p l e R s m args below meth c β D dA ad0 sa Qf C ad H locs cells slots ls ha hn hR hl hc hs
  simp only [Bool.and_eq_true, decide_eq_true_eq] at q
  obtain ⟨⟨⟨hm, d⟩, hlk⟩, hv⟩ := q
  have hlink := lk_bef hm hlk (Nat.le_of_ble_eq_true rfl) C.2.2.2.2.1
  simp only [lkw] at hlink
  rw [dN_ok2 mi hm] at hlink
  have hrest : ((rest.map (tv ad)).map fun v => v.category).sum ≤ 8 := by
    rw [List.map_map]
    have := Nat.le_of_ble_eq_true hw
    simpa [Function.comp_def, tv_cat] using this
  have hfr := C.2.2.2.2.2.2.2.2.2.1
  refine va_mmax_long C.1 C.2.1 (by rw [C.2.2.1]; exact hl.1.symm) C.2.2.2.1 hlink (C.2.2.2.2.1 _ (xu_t (by decide +kernel) (by decide +kernel))) (C.2.2.2.2.1 _ (xu_t (by decide +kernel) (by decide +kernel))) (C.2.2.2.2.1 _ (xu_t (by decide +kernel) (by decide +kernel))) (by omega) (by omega) (by omega) (by omega) d ?_
  exact k n0 p l e R s m args below meth c β D dA ad0 sa Qf C ad H locs cells slots ls ha hn hR hl hc hs
theorem a_mmin {i : Nat} {x y : Int32} (q : (decide (mi < 152) && decide (decode (mB mi) pc = .ok (.invokestatic i, 3)) && (lks (mD mi)).contains (i, 3, 3, 0) && decide (1 ≤ mV mi)) = true) (hw : Nat.ble (rest.map fun v => v.category).sum 8 = true) (k : AW X mi (pc + 3) lv (.int (if y < x then y else x) :: rest) h bc bs Q) : AW X mi pc lv (.int y :: .int x :: rest) h bc bs Q := by
  intro n0 p l e R s m args below meth c β D dA ad0 sa Qf C ad H locs cells slots ls ha hn hR hl hc hs
  simp only [Bool.and_eq_true, decide_eq_true_eq] at q
  obtain ⟨⟨⟨hm, d⟩, hlk⟩, hv⟩ := q
  have hlink := lk_bef hm hlk (Nat.le_of_ble_eq_true rfl) C.2.2.2.2.1
  simp only [lkw] at hlink
  rw [dN_ok2 mi hm] at hlink
  have hrest : ((rest.map (tv ad)).map fun v => v.category).sum ≤ 8 := by
    rw [List.map_map]
    have := Nat.le_of_ble_eq_true hw
    simpa [Function.comp_def, tv_cat] using this
  have hfr := C.2.2.2.2.2.2.2.2.2.1
  refine va_mmin C.1 C.2.1 (by rw [C.2.2.1]; exact hl.1.symm) C.2.2.2.1 hlink (C.2.2.2.2.1 _ (xu_t (by decide +kernel) (by decide +kernel))) (C.2.2.2.2.1 _ (xu_t (by decide +kernel) (by decide +kernel))) (C.2.2.2.2.1 _ (xu_t (by decide +kernel) (by decide +kernel))) (by omega) (by omega) (by omega) (by omega) d ?_
  exact k n0 p l e R s m args below meth c β D dA ad0 sa Qf C ad H locs cells slots ls ha hn hR hl hc hs
theorem a_lmin {i : Nat} {x y : Int64} (q : (decide (mi < 152) && decide (decode (mB mi) pc = .ok (.invokestatic i, 3)) && (lks (mD mi)).contains (i, 3, 4, 0) && decide (1 ≤ mV mi)) = true) (hw : Nat.ble (rest.map fun v => v.category).sum 8 = true) (k : AW X mi (pc + 3) lv (.long (if y < x then y else x) :: rest) h bc bs Q) : AW X mi pc lv (.long y :: .long x :: rest) h bc bs Q := by
  intro n0 p l e R s m args below meth c β D dA ad0 sa Qf C ad H locs cells slots ls ha hn hR hl hc hs
  simp only [Bool.and_eq_true, decide_eq_true_eq] at q
  obtain ⟨⟨⟨hm, d⟩, hlk⟩, hv⟩ := q
  have hlink := lk_bef hm hlk (Nat.le_of_ble_eq_true rfl) C.2.2.2.2.1
  simp only [lkw] at hlink
  rw [dN_ok2 mi hm] at hlink
  have hrest : ((rest.map (tv ad)).map fun v => v.category).sum ≤ 8 := by
    rw [List.map_map]
    have := Nat.le_of_ble_eq_true hw
    simpa [Function.comp_def, tv_cat] using this
  have hfr := C.2.2.2.2.2.2.2.2.2.1
  refine va_mmin_long C.1 C.2.1 (by rw [C.2.2.1]; exact hl.1.symm) C.2.2.2.1 hlink (C.2.2.2.2.1 _ (xu_t (by decide +kernel) (by decide +kernel))) (C.2.2.2.2.1 _ (xu_t (by decide +kernel) (by decide +kernel))) (C.2.2.2.2.1 _ (xu_t (by decide +kernel) (by decide +kernel))) (by omega) (by omega) (by omega) (by omega) d ?_
  exact k n0 p l e R s m args below meth c β D dA ad0 sa Qf C ad H locs cells slots ls ha hn hR hl hc hs
theorem a_clone {i kn : Nat} (q : (decide (mi < 152) && decide (decode (mB mi) pc = .ok (.invokevirtual i, 3)) && (lks (mD mi)).contains (i, 3, 0, 0) && decide (1 ≤ mV mi) && decide (mA mi = 1)) = true) (hw : Nat.ble (rest.map fun v => v.category).sum 8 = true) (hk : h.length = kn) (hlt : Nat.ble (kn + 1) 1000 = true) (hwf : wfa h lv rest = true) (hb : Nat.ble 1 bc = true ∧ Nat.ble 8 bs = true) (k : AW X mi (pc + 3) lv (.ref kn :: rest) (h ++ [.inr (0, 8, .inl ro_w)]) (bc - 1) (bs - 8) Q) : AW X mi pc lv (.ref 1001 :: rest) h bc bs Q := by
  intro n0 p l e R s m args below meth c β D dA ad0 sa Qf C ad H locs cells slots ls ha hn hR hl hc hs
  simp only [Bool.and_eq_true, decide_eq_true_eq] at q
  obtain ⟨⟨⟨⟨hm, d⟩, hlk⟩, hv⟩, hA⟩ := q
  have hlink := lk_bef hm hlk (Nat.le_of_ble_eq_true rfl) C.2.2.2.2.1
  simp only [lkw] at hlink
  rw [dN_ok2 mi hm] at hlink
  have b1 := Nat.le_of_ble_eq_true hb.1
  have b2 := Nat.le_of_ble_eq_true hb.2
  have hrest : ((rest.map (tv ad)).map fun v => v.category).sum ≤ 8 := by
    rw [List.map_map]
    have := Nat.le_of_ble_eq_true hw
    simpa [Function.comp_def, tv_cat] using this
  have hfr := C.2.2.2.2.2.2.2.2.2.1
  have hsw := C.2.2.2.2.2.2.1
  have had : ad 1001 = ad0 1001 := ha.2 _ (Or.inr (by omega))
  obtain ⟨cell, w1, w2, w3, w4⟩ := hsw.2.2.2.2.2.2.2.2
  obtain ⟨cell', t1, t2, t3, -, -, t6, -⟩ := hsw.2.1 1 (by omega)
  cases Option.some.inj (w1.symm.trans t1)
  have w1H : H[ad 1001]? = some cell := by rw [had, hR.2.2.2.1 _ (Array.getElem?_eq_some_iff.mp w1).1 w4]; exact w1
  have hci := hsw.2.2.2.2.2.2.1 (Cond.castable "[I" "java/lang/Cloneable") (List.mem_filter.mpr ⟨by decide +kernel, rfl⟩)
  obtain ⟨c0, t0', f1, f2, f3⟩ := Cond.castable_spec (va_Nw.use (A := args) rfl hci)
  cases Option.some.inj (w3.symm.trans f1)
  have hdA : dA 0 = cell.cls := Option.some.inj ((va_nm_int ((hsw.1.2 0 _ (tyl_at dA 0 (by omega))).2)).symm.trans w3)
  have hsl : ({ cls := cell.cls, slots := cell.slots } : Cell) = vp_cell (dA 0) (8, .inl ro_w) := by
    have hs8 : cell.slots = (vp_cell (dA 0) (8, .inl ro_w)).slots := by
      apply Array.ext_getElem?
      intro j
      by_cases hj : j < 8
      · rw [t6 j hj, vp_cell_i, arrV_read _ _ hj]
        rfl
      · rw [Array.getElem?_eq_none (by omega), Array.getElem?_eq_none (by rw [vp_cell_i, arrV_size]; omega)]
    rw [hs8, ← hdA]
    rfl
  intro T hT Y
  obtain ⟨hst0, kA, hkA, comp, hkind⟩ := State.isArrayOf_alike Y.warmed.alike t2
  obtain ⟨vm', Y', st⟩ := Y.cloneArray C.1 C.2.2.2.1 hlink (C.2.2.2.2.1 _ (xu_t (by decide +kernel) (by decide +kernel))) (C.2.2.2.2.1 _ (xu_t (by decide +kernel) (by decide +kernel))) (C.2.2.2.2.1 _ (xu_t (by decide +kernel) (by decide +kernel))) (C.2.2.2.2.1 _ (xu_t (by decide +kernel) (by decide +kernel))) (a := ad 1001) (cell := cell) (by rw [hT]; exact w1H) t2.1 t3 w3 f2 f3
    (fun i v hv => by
      have hk' : T.vm.classes[cell.cls]? = some kA := hkA
      have hv2 : fits .int v = true := by
        by_cases hi : i < 8
        · rw [t6 i hi] at hv; cases hv; rfl
        · rw [Array.getElem?_eq_none (by omega)] at hv; cases hv
      simpa [State.fitsSlot, State.slotType?, hk', hkind, roT] using hv2)
    (g := F0 m pc ls (.ref (ad 1001) :: rest.map (tv ad))) rfl (by rw [C.2.2.1]; exact hl.1) rfl (by rw [C.2.1]; exact d) (by omega) (by show 2 * 0 + _ + 14 ≤ _; omega) (by omega) (by rw [w2]; omega) (hloader := by
      obtain ⟨-, kS, hkS, compS, hkindS⟩ := t2
      exact Vm.clonesLoader_of_array hkS hkindS)
  rw [w2, hsl] at Y'
  generalize hH1 : H.push (vp_cell (dA 0) (8, .inl ro_w)) = H1
  have z1 : H1.size = H.size + 1 := by rw [← hH1, Array.size_push]
  have e1 : H1[H.size]? = some (vp_cell (dA 0) (8, .inl ro_w)) := by rw [← hH1, Array.getElem?_push_size]
  have o1 : ∀ q : Nat, q < H.size → H1[q]? = H[q]? := fun q hq => by rw [← hH1, Array.getElem?_push, if_neg (Nat.ne_of_lt hq)]
  have hP1 : va_P D kcl (cW dA ad h ++ [(H.size, .inl (dA 0, (8, .inl ro_w)))]) H1 := (hR.1.kept (fun k y hy => o1 y.1 ((hR.1 k y hy).lt))).app (fun k y hy => by
    have hz : k < 1 := (List.getElem?_eq_some_iff.mp hy).1
    rw [show k = 0 by omega] at hy
    cases hy
    exact e1)
  have hD1 : va_D (fun q : Nat => β ≤ q) (cW dA ad h ++ [(H.size, .inl (dA 0, (8, .inl ro_w)))]) := hR.2.1.push hR.1 rfl (Nat.le_trans C.2.2.2.2.2.2.2.1 hR.2.2.1)
  have hS1 : va_S (fun q : Nat => β ≤ q) s.heap H1 locs := ⟨Nat.le_trans hR.2.2.1 (by omega), fun y h1 h2 => (o1 y (Nat.lt_of_lt_of_le h1 hR.2.2.1)).trans (hR.2.2.2.1 y h1 h2), hR.2.2.2.2⟩
  have K := grow (N := 8) C hA hk (Nat.le_of_ble_eq_true hlt) hwf ⟨b1, b2⟩ ha hn hl hc hs (c0 := .inr (0, 8, .inl ro_w)) rfl hP1 hD1 hS1 k
  obtain ⟨t, b1, b2⟩ := K ((T.setVm vm').pushCell (vp_cell (dA 0) (8, .inl ro_w))) (by rw [← hH1, ← hT]; rfl) Y'
  refine ⟨t, st t ?_, b2⟩
  rw [hsl, hT]
  exact b1
theorem a_castI {i o : Nat} {x : vp_A} (q : (decide (mi < 152) && decide (decode (mB mi) pc = .ok (.checkcast i, 3)) && decide (Cond.classLink (mY mi).cls i "[I" ∈ tables_1)) = true) (ho : h[o]? = some (.inr (0, x))) (k : AW X mi (pc + 3) lv (.ref o :: rest) h bc bs Q) : AW X mi pc lv (.ref o :: rest) h bc bs Q := by
  intro n0 p l e R s m args below meth c β D dA ad0 sa Qf C ad H locs cells slots ls ha hn hR hl hc hs
  simp only [Bool.and_eq_true, decide_eq_true_eq] at q
  obtain ⟨⟨hm, d⟩, hlk⟩ := q
  refine va_castA C.1 C.2.1 C.2.2.2.1 (C.2.2.2.2.1 _ (xu_t hlk rfl)) hR.1 o (cW_get ho) (va_nm_int ((C.2.2.2.2.2.2.1.1.2 0 _ (tyl_at dA 0 (by omega))).2)) d ?_
  exact k n0 p l e R s m args below meth c β D dA ad0 sa Qf C ad H locs cells slots ls ha hn hR hl hc hs
end ALLOC
end
section
/-! a call whose exceptions the method catches: each handler keeps the exception in a local that nobody reads -/
/-- a handler: its exception, its place, the local, the length of the store -/
abbrev hT : Type := Nat × Nat × Nat × Nat
def hB (mi pc : Nat) (z : hT) (x : Nat × Nat × Nat × Nat) : Bool := Nat.ble x.1 pc && Nat.ble (pc + 1) x.2.1 && decide (x.2.2.1 = z.2.1) && !(decide (x.2.2.2 = 0)) && (lks (mD mi)).contains (x.2.2.2, 5, 100 + z.1, 0) && decide (z.1 < 6) && Nat.ble (z.2.2.1 + 1) (mL mi) &&
  ((decide (z.2.2.2 = 2) && decide (decode (mB mi) z.2.1 = .ok (.astore z.2.2.1, 2))) || (decide (z.2.2.2 = 1) && ((decide (z.2.2.1 = 2) && decide (decode (mB mi) z.2.1 = .ok (.astore_n 2, 1))) || (decide (z.2.2.1 = 3) && decide (decode (mB mi) z.2.1 = .ok (.astore_n 3, 1))))))
/-- the handlers that a call at pc has: one or two -/
def hC (mi pc : Nat) (zs : List hT) : Bool := match mH mi, zs with
  | [x], [z] => hB mi pc z x
  | [x, y], [z, w] => hB mi pc z x && hB mi pc w y && decide ((exN.getD w.1 "", exN.getD z.1 "") ∈ NCL)
  | _, _ => false
def HK (X : XS) (mi pc : Nat) (lv : List (Nat × Value)) (rest : List Value) (bc bs : Nat) (zs : List hT) (Q : AO → AH → Prop) (o : AO) (h : AH) : Prop := match o with
  | .inl none => AW X mi (pc + 3) lv rest h bc bs Q
  | .inl (some v) => AW X mi (pc + 3) lv (v :: rest) h bc bs Q
  | .inr en => ∃ z ∈ zs, z.1 = en ∧ AW X mi (z.2.1 + z.2.2.2) (stf 1 z.2.2.1 lv) [] h bc bs Q
section HRUN
variable {X : XS} {mi mj pc : Nat} {lv : List (Nat × Value)} {rest : List Value} {h : AH} {bc bs : Nat} {Q : AO → AH → Prop} {n0 : Nat} {p : Program} {l : Launch} {e : Env} {R : Room} {s : State} {m : MethodId} {args : Array Value} {below : List Frame} {meth : Method} {c : Code} {β : Nat} {D : va_G} {dA : Nat → ClassId} {ad0 sa : Nat → Nat} {Qf : State → Prop}
/-- one handler takes what it is for -/
theorem h_take (C : Cx X mi Q n0 p l e R s m args below meth c β D dA ad0 sa Qf) (hm : mi < 152) {z : hT} {x : Nat × Nat × Nat × Nat} {pre suf : List ExceptionTableEntry} (hB1 : hB mi pc z x = true) (hsp : tableOf (mH mi) = pre ++ ⟨x.1, x.2.1, x.2.2.1, x.2.2.2⟩ :: suf)
    (hpass : ∀ y ∈ pre, covers y pc = false ∨ (y.catchType ≠ 0 ∧ ∃ nm : String, (Cond.classLink (mY mi).cls y.catchType nm).before args s = true ∧ va_Nc (exN.getD z.1 "") nm s)) {ad : Nat → Nat} {H : Heap} {locs : List Loc} {cells slots : Nat} {ls : Array Slot} {st : List Value} {q : Nat} {ce : Cell}
    (ha : adOk mi n0 ad0 ad) (hn : n0 ≤ h.length) (hR : HR D dA β ad h s.heap H locs) (hl : lv_has ls (mL mi) (tl ad lv)) (hc : cells + bc ≤ R.cells) (hs : slots + bs ≤ R.slots) (hce : H[q]? = some ce) (hcv : ce.vm = .none) (hcl : s.vm.findClass (exN.getD z.1 "") = some ce.cls)
    (k : AW X mi (z.2.1 + z.2.2.2) (stf 1 z.2.2.1 lv) [] h bc bs Q) : vx_W p l e R s m args below meth c H locs cells slots Qf (F0 m pc ls st) q := by
  simp only [hB, Bool.and_eq_true, Bool.or_eq_true, decide_eq_true_eq, Bool.not_eq_true', decide_eq_false_iff_not] at hB1
  obtain ⟨⟨⟨⟨⟨⟨⟨b1, b2⟩, b3⟩, b4⟩, b5⟩, b6⟩, b7⟩, b8⟩ := hB1
  have hlink := lk_bef hm b5 (Nat.le_of_ble_eq_true rfl) C.2.2.2.2.1
  simp only [lkw] at hlink
  rw [if_neg (by omega), show 100 + z.1 - 100 = z.1 by omega, dN_ok2 mi hm] at hlink
  have hat := at_ok z.1 b6
  simp only [atB, Bool.and_eq_true, decide_eq_true_eq] at hat
  have hcast : (Cond.castable (exN.getD z.1 "") (exN.getD z.1 "")).before args s = true := va_Nw.use rfl (C.2.2.2.2.2.2.1.2.2.2.2.2.2.1 _ (List.mem_filter.mpr ⟨hat.1.2, rfl⟩))
  refine vx_catch C.2.2.2.1 pre ⟨x.1, x.2.1, x.2.2.1, x.2.2.2⟩ suf (by rw [C.2.2.2.2.2.2.2.2.2.2.1]; exact hsp) hpass (by
      show (decide (x.1 ≤ pc) && decide (pc < x.2.1)) = true
      have c1 := Nat.le_of_ble_eq_true b1
      have c2 := Nat.le_of_ble_eq_true b2
      simp only [Bool.and_eq_true, decide_eq_true_eq]
      omega) b4 hlink hcast hce hcv hcl ?_
  show W p l e R s m args below meth c H locs cells slots Qf (F0 m x.2.2.1 ls [.ref q])
  rw [b3]
  have fin : ∀ ls' : Array Slot, lv_has ls' (mL mi) ((z.2.2.1, Value.ref q) :: (tl ad lv).filter (fun q => !(q.1 == z.2.2.1) && !(q.1 + 1 == z.2.2.1 && q.2.category == 2))) → lv_has ls' (mL mi) (tl ad (stf 1 z.2.2.1 lv)) := by
    intro ls' hl'
    refine ⟨hl'.1, hl'.2.1, fun y hy => ?_⟩
    obtain ⟨w, hw, rfl⟩ := List.mem_map.mp hy
    obtain ⟨g1, g2⟩ := stf_in hw
    refine hl'.2.2 _ (List.mem_cons_of_mem _ (List.mem_filter.mpr ⟨List.mem_map.mpr ⟨w, g1, rfl⟩, ?_⟩))
    simp only [klp, Bool.or_eq_false_iff, Bool.and_eq_false_iff] at g2
    obtain ⟨⟨h1, h2⟩, -⟩ := g2
    have e1 : ¬ w.1 = z.2.2.1 := Nat.ne_of_beq_eq_false h1
    simp only [Bool.and_eq_true, Bool.not_eq_true', beq_eq_false_iff_ne, ne_eq, Bool.and_eq_false_iff]
    refine ⟨e1, ?_⟩
    rcases h2 with h2 | h2
    · exact Or.inl (Nat.ne_of_beq_eq_false h2)
    · exact Or.inr (by rw [tv_cat]; exact Nat.ne_of_beq_eq_false h2)
  have kk := fun ls' hl' => k n0 p l e R s m args below meth c β D dA ad0 sa Qf C ad H locs cells slots ls' ha hn hR (fin ls' hl') hc hs
  rcases b8 with ⟨d2, d3⟩ | ⟨d2, ⟨d3, d4⟩ | ⟨d3, d4⟩⟩
  · rw [d2] at kk
    exact lv_astore C.1 C.2.1 d3 hl (Nat.le_of_ble_eq_true b7) rfl kk
  · rw [d2] at kk
    exact lv_astore_n C.1 C.2.1 d4 d3.symm hl (Nat.le_of_ble_eq_true b7) rfl kk
  · rw [d2] at kk
    exact lv_astore_n C.1 C.2.1 d4 d3.symm hl (Nat.le_of_ble_eq_true b7) rfl kk
theorem run_goH {zs : List hT} (hz : hC mi pc zs = true) (hm : mi < 152) (C : Cx X mi Q n0 p l e R s m args below meth c β D dA ad0 sa Qf) {ad : Nat → Nat} {H : Heap} {locs : List Loc} {cells slots : Nat} {ls : Array Slot} {st0 : List Value} {a : Array Value} (ha : adOk mi n0 ad0 ad) (hn : n0 ≤ h.length) (hR : HR D dA β ad h s.heap H locs) (hl : lv_has ls (mL mi) (tl ad lv)) (hc : cells + bc ≤ R.cells) (hs : slots + bs ≤ R.slots) (hb : mC mj ≤ bc ∧ mS mj ≤ bs) (hA : mA mj = 0)
    (hr : vx_Run p l e R s m args below meth c H locs cells slots (mC mj) (mS mj) (F0 m pc ls st0) (rest.map (tv ad)) (CQ mj h.length β D dA ad (HK X mi pc lv rest (bc - mC mj) (bs - mS mj) zs Q) a) (CX mj h.length β D dA ad (HK X mi pc lv rest (bc - mC mj) (bs - mS mj) zs Q)) (fun q : Nat => β ≤ q)) :
    W p l e R s m args below meth c H locs cells slots Qf (F0 m pc ls st0) := by
  intro T hT Y
  rcases hr T hT Y with ⟨v, st₀, t, T', L, h0, Y', hL, e1, e2, ⟨⟨v', h', ad', hv, hQ, hadk, hlen', hP', hD'⟩, hF⟩, st⟩ | ⟨q, st₀, t, T', L, E, ce, h0, Y', hL, e1, e2, ⟨⟨en, h', ad', hE, hQ, hadk, hlen', hP', hD'⟩, hF⟩, hce, hcv, hcl, st⟩
  · obtain ⟨k1, k2, k3⟩ := vx_keep h0 e1 hR.2.2 (fun _ _ z => z) (fun _ z => z) hL hF
    have e9 := hadk.1 hA
    subst e9
    have hR' : HR D dA β ad' h' s.heap T'.heap (locs ++ L) := ⟨by rw [e1]; exact hP', hD', k3⟩
    cases v' with
    | none =>
      cases hv
      have k : AW X mi (pc + 3) lv rest h' (bc - mC mj) (bs - mS mj) Q := hQ
      obtain ⟨t2, a1, b1⟩ := k n0 p l e R s m args below meth c β D dA ad0 sa Qf C ad' T'.heap (locs ++ L) (cells + mC mj) (slots + mS mj) ls ha (Nat.le_trans hn hlen') hR' hl (by omega) (by omega) T' rfl Y'
      exact ⟨t2, st t2 a1, b1⟩
    | some v1 =>
      cases hv
      have k : AW X mi (pc + 3) lv (v1 :: rest) h' (bc - mC mj) (bs - mS mj) Q := hQ
      obtain ⟨t2, a1, b1⟩ := k n0 p l e R s m args below meth c β D dA ad0 sa Qf C ad' T'.heap (locs ++ L) (cells + mC mj) (slots + mS mj) ls ha (Nat.le_trans hn hlen') hR' hl (by omega) (by omega) T' rfl Y'
      exact ⟨t2, st t2 a1, b1⟩
  · obtain ⟨k1, k2, k3⟩ := vx_keep h0 e1 hR.2.2 (fun _ _ z => z) (fun _ z => z) hL hF
    have e9 := hadk.1 hA
    subst e9
    have hR' : HR D dA β ad' h' s.heap T'.heap (locs ++ L) := ⟨by rw [e1]; exact hP', hD', k3⟩
    obtain ⟨z, hzs, rfl, k⟩ : ∃ z ∈ zs, z.1 = en ∧ AW X mi (z.2.1 + z.2.2.2) (stf 1 z.2.2.1 lv) [] h' (bc - mC mj) (bs - mS mj) Q := hQ
    have go : vx_W p l e R s m args below meth c T'.heap (locs ++ L) (cells + mC mj) (slots + mS mj) Qf (F0 m pc ls (rest.map (tv ad'))) q := by
      have hce' : T'.heap[q]? = some ce := by rw [e1]; exact hce
      have hcl' : s.vm.findClass (exN.getD z.1 "") = some ce.cls := by rw [← hE]; exact hcl
      unfold hC at hz
      split at hz
      · rename_i x z1 hmH
        rw [List.mem_singleton] at hzs
        subst hzs
        exact h_take C hm (pre := []) (suf := []) hz (by rw [hmH]; rfl) (fun y hy => nomatch hy) ha (Nat.le_trans hn hlen') hR' hl (by omega) (by omega) hce' hcv hcl' k
      · rename_i x y z1 w1 hmH
        simp only [Bool.and_eq_true, decide_eq_true_eq] at hz
        obtain ⟨⟨hz1, hz2⟩, hz3⟩ := hz
        rcases List.mem_cons.mp hzs with rfl | hzs
        · exact h_take C hm (pre := []) (suf := [⟨y.1, y.2.1, y.2.2.1, y.2.2.2⟩]) hz1 (by rw [hmH]; rfl) (fun y hy => nomatch hy) ha (Nat.le_trans hn hlen') hR' hl (by omega) (by omega) hce' hcv hcl' k
        · rw [List.mem_singleton] at hzs
          subst hzs
          refine h_take C hm (pre := [⟨x.1, x.2.1, x.2.2.1, x.2.2.2⟩]) (suf := []) hz2 (by rw [hmH]; rfl) (fun y hy => ?_) ha (Nat.le_trans hn hlen') hR' hl (by omega) (by omega) hce' hcv hcl' k
          rw [List.mem_singleton] at hy
          subst hy
          simp only [hB, Bool.and_eq_true, Bool.or_eq_true, decide_eq_true_eq, Bool.not_eq_true', decide_eq_false_iff_not] at hz1
          obtain ⟨⟨⟨⟨⟨⟨⟨b1, b2⟩, b3⟩, b4⟩, b5⟩, b6⟩, b7⟩, b8⟩ := hz1
          have hlink := lk_bef hm b5 (Nat.le_of_ble_eq_true rfl) C.2.2.2.2.1
          simp only [lkw] at hlink
          rw [if_neg (by omega), show 100 + z1.1 - 100 = z1.1 by omega, dN_ok2 mi hm] at hlink
          exact Or.inr ⟨b4, _, hlink, C.2.2.2.2.2.2.1.2.2.2.2.2.2.2.1 _ hz3⟩
      · cases hz
    obtain ⟨t2, a1, b1⟩ := go T' rfl Y'
    exact ⟨t2, st.trans a1, b1⟩
end HRUN
theorem a_callVH {X : XS} {mi mj pc i n : Nat} {lv : List (Nat × Value)} {rest : List Value} {h : AH} {bc bs : Nat} {Q : AO → AH → Prop} {as : List Value} {o : Nat} {fs : List Value} {zs : List hT} (q : (cfB mi pc i mj 1 4 n && hC mi pc zs) = true) (hn' : as.length = n) (ho : h[o]? = some (.inl (mO mj, fs))) (hw : Nat.ble (rest.map fun v => v.category).sum 8 = true) (hb : Nat.ble (mC mj) bc = true ∧ Nat.ble (mS mj) bs = true)
    (hA : mA mj = 0) (k : Call X mj (.ref o :: as) h (HK X mi pc lv rest (bc - mC mj) (bs - mS mj) zs Q)) : AW X mi pc lv (as.reverse ++ .ref o :: rest) h bc bs Q := by
  intro n0 p l e R s m args below meth c β D dA ad0 sa Qf C ad H locs cells slots ls ha hn hR hl hc hs
  rw [Bool.and_eq_true] at q
  obtain ⟨q, hz⟩ := q
  simp only [cfB, Bool.and_eq_true, decide_eq_true_eq] at q
  obtain ⟨⟨⟨⟨⟨⟨⟨⟨hm, hj⟩, d⟩, hlk⟩, hkd⟩, hnn⟩, hv⟩, hH⟩, hne⟩ := q
  have hts := C.2.2.2.2.1
  obtain ⟨-, hy2, hy3, hy4⟩ := yw mj hj
  have hy5 : Cond.instanceMethod (mY mj) ∈ XU ∧ Cond.selects (mY mj).cls (mY mj) (mY mj) ∈ XU ∧ (kC (mO mj)).1 = (mY mj).cls ∧ mO mj < 8 := by
    unfold yw_k at hy4
    rw [hkd] at hy4
    exact hy4
  obtain ⟨hi1, hi2, hi3, hi4⟩ := hy5
  have hrm := room_ok (R := R) hj hv C.2.2.2.2.2.2.2.2.2.1
  have hM := k l β D dA ad sa C.2.2.2.2.2.1
  have hstk : List.map (tv ad) (as.reverse ++ .ref o :: rest) = (as.map (tv ad)).reverse ++ .ref (ad o) :: rest.map (tv ad) := by rw [List.map_append, List.map_reverse, List.map_cons]; rfl
  rw [hstk]
  refine run_goH (lv := lv) (rest := rest) (bc := bc) (bs := bs) hz hm C ha hn hR hl hc hs ⟨Nat.le_of_ble_eq_true hb.1, Nat.le_of_ble_eq_true hb.2⟩ hA (a := (Value.ref (ad o) :: as.map (tv ad)).toArray) ?_
  have hrv := va_recv C.2.2.2.2.2.2.1.1 hR.1 (kok (mO mj) hi4).1 (cW_get ho)
  rw [hi3] at hrv
  have hp : PreV s H (mY mj).cls (ad o) (va_Pc ((Value.ref o :: as).map (tv ad)) (CP X β D dA ad sa h)) (as.map (tv ad)) := ⟨CP_blind, hrv, fun U hU hW => ⟨rfl, CP_at C ha hR U hU hW⟩⟩
  have hrest : ((rest.map (tv ad)).map fun v => v.category).sum ≤ 8 := by
    rw [List.map_map]
    have := Nat.le_of_ble_eq_true hw
    simpa [Function.comp_def, tv_cat] using this
  have hf : cells + mC mj ≤ R.cells ∧ slots + mS mj ≤ R.slots := ⟨by have := Nat.le_of_ble_eq_true hb.1; omega, by have := Nat.le_of_ble_eq_true hb.2; omega⟩
  have hlink := lk_bef hm hlk (Nat.le_of_ble_eq_true rfl) hts
  simp only [lkw] at hlink
  rw [dN_ok2 mi hm] at hlink
  exact vx_runV ⟨C.1, C.2.1, C.2.2.1, C.2.2.2.1, hts⟩ hM ⟨callB_of n hts (mW_good hj) (by rw [mW_code hH]) rfl rfl (hts _ hy3) hlink (desc_ok hj hnn) hrm, hts _ hi1, hts _ hi2⟩ hp rfl (by rw [List.length_map]; exact hn') hl.1 rfl (lv_room hrest) d hf
/-- a static call of a method with handlers of its own -/
def cfW (mi pc i mj n : Nat) : Bool := decide (mi < 152) && decide (mj < 151) && decide (decode (mB mi) pc = .ok (.invokestatic i, 3)) && (lks (mD mi)).contains (i, 4, mj, 0) && decide (mK mj = 0) && decide (mN mj = n) && decide (mV mj + 1 ≤ mV mi) && !(decide (mH mj = []))
theorem a_callSW {X : XS} {mi mj pc i n : Nat} {lv : List (Nat × Value)} {rest : List Value} {h : AH} {bc bs : Nat} {Q : AO → AH → Prop} {as : List Value} (q : cfW mi pc i mj n = true) (hn' : as.length = n) (hw : Nat.ble (rest.map fun v => v.category).sum 8 = true) (hb : Nat.ble (mC mj) bc = true ∧ Nat.ble (mS mj) bs = true) (hA : mA mj = 0)
    (k : Call X mj as h (CK X mi pc lv rest (bc - mC mj) (bs - mS mj) Q)) : AW X mi pc lv (as.reverse ++ rest) h bc bs Q := by
  intro n0 p l e R s m args below meth c β D dA ad0 sa Qf C ad H locs cells slots ls ha hn hR hl hc hs
  simp only [cfW, Bool.and_eq_true, decide_eq_true_eq, Bool.not_eq_true', decide_eq_false_iff_not] at q
  obtain ⟨⟨⟨⟨⟨⟨⟨hm, hj⟩, d⟩, hlk⟩, hkd⟩, hnn⟩, hv⟩, hH⟩ := q
  have hts := C.2.2.2.2.1
  obtain ⟨-, hy2, hy3, hy4⟩ := yw mj hj
  have hstt : (Cond.static (mY mj)).before args s = true := by
    unfold yw_k at hy4
    rw [hkd] at hy4
    exact hts _ hy4
  have hrm := room_ok (R := R) hj hv C.2.2.2.2.2.2.2.2.2.1
  have hM := k l β D dA ad sa C.2.2.2.2.2.1
  have hstk : List.map (tv ad) (as.reverse ++ rest) = (as.map (tv ad)).reverse ++ rest.map (tv ad) := by rw [List.map_append, List.map_reverse]
  rw [hstk]
  refine run_go (lv := lv) (rest := rest) (bc := bc) (bs := bs) C ha hn hR hl hc hs ⟨Nat.le_of_ble_eq_true hb.1, Nat.le_of_ble_eq_true hb.2⟩ (Or.inl hA) (a := (as.map (tv ad)).toArray) ?_
  have hp : PreS s H (va_Pc (as.map (tv ad)) (CP X β D dA ad sa h)) (as.map (tv ad)) := ⟨CP_blind, fun U hU hW => ⟨rfl, CP_at C ha hR U hU hW⟩⟩
  have hrest : ((rest.map (tv ad)).map fun v => v.category).sum ≤ 8 := by
    rw [List.map_map]
    have := Nat.le_of_ble_eq_true hw
    simpa [Function.comp_def, tv_cat] using this
  have hf : cells + mC mj ≤ R.cells ∧ slots + mS mj ≤ R.slots := ⟨by have := Nat.le_of_ble_eq_true hb.1; omega, by have := Nat.le_of_ble_eq_true hb.2; omega⟩
  have hlink := lk_bef hm hlk (Nat.le_of_ble_eq_true rfl) hts
  simp only [lkw] at hlink
  rw [dN_ok2 mi hm] at hlink
  have hcw : Cond.codeWith (mY mj) (mB mj) (mL mj) (mR mj) (mH mj) ∈ mW mj :: XU := by rw [← mW_with hH]; exact List.mem_cons_self
  have hdk := desc_ok hj hnn
  exact vx_runSX ⟨C.1, C.2.1, C.2.2.1, C.2.2.2.1, hts⟩ hM ⟨⟨rfl, rfl, hrm.1, hrm.2, pay_in hts (mW_good hj), hcw⟩, by rw [← mW_with hH]; exact hts _ hy2, hts _ hy3, ⟨hdk.1, hdk.2.1⟩, fun sig hsg => by
    have h2 := hdk.2.2
    rw [hsg] at h2
    exact (Option.some.inj h2).symm, hlink, hstt⟩ hp rfl (by rw [List.length_map]; exact hn') hl.1 rfl (lv_room hrest) d hf
end
