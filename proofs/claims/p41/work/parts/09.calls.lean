/-! ===== BEGIN a constructor that throws (launches without stack traces) ===== -/
section VXIA
variable {p : Program} {l : Launch} {e : Env} {R : Room} {s : State} {m : MethodId} {args : Array Value} {below : List Frame} {meth : Method} {c : Code} {T : State} {locs : List Loc} {cells slots : Nat}
theorem vx_callI (X : Stand p l e R s m args below meth c T locs cells slots) (hexec : p.tables.exec = Jvm.exec) {own : String} {index : Nat} {y : MethodName} {bytes : ByteArray} {maxL : Nat}
    (hown : s.vm.findClass own = some m.cls) (hy1 : y.name = "<init>") (hlink : (Cond.methodLink own index y).before args s = true) (hinst : (Cond.instanceMethod y).before args s = true)
    (hcode : (Cond.code y bytes maxL none).before args s = true) (hy : y.cls ≠ "java/lang/invoke/MethodHandle" ∧ y.cls ≠ "java/lang/invoke/VarHandle")
    {W9 : Nat} {Pre : Pt → Array Value → Prop} {Post : Pt → Array Value → Option Value → Pt → Prop} {PostX : Pt → Array Value → Addr → Pt → Prop} (hK : vx_Back l R p e below s args y 3 W9 Pre Post PostX)
    {g : JFrame} (hg : g.method = m) (hsize : g.locals.size = c.maxLocals) {a : Addr} {argsL rest : List Value} (hlen : ∀ sig, parseMethodDescriptor y.desc = some sig → argsL.length = sig.parameters.length)
    (hstack : g.stack = argsL.reverse ++ .ref a :: rest) (hW : 2 * g.monitorRoom + (rest.map fun v => v.category).sum ≤ W9) (hdg : decode c.code g.pc = .ok (.invokespecial index, 3))
    (hpre : ∀ vm₁, s.WarmedH vm₁ → Pre ⟨T.setVm vm₁, locs, cells, slots⟩ (Value.ref a :: argsL).toArray) :
    (∃ (v : Option Value) (vm₁ : Vm) (B : Pt), s.WarmedH vm₁ ∧ Stand p l e R s m args below meth c B.U B.locs B.cells B.slots ∧ Post ⟨T.setVm vm₁, locs, cells, slots⟩ (Value.ref a :: argsL).toArray v B ∧
      ∀ target, Steps p.tables e below (B.U.setTop { g with pc := g.pc + 3, stack := v.toList ++ rest }) target → Steps p.tables e below (T.setTop g) target) ∨
    (∃ (q : Addr) (vm₁ : Vm) (B : Pt), s.WarmedH vm₁ ∧ Stand p l e R s m args below meth c B.U B.locs B.cells B.slots ∧ PostX ⟨T.setVm vm₁, locs, cells, slots⟩ (Value.ref a :: argsL).toArray q B ∧
      Steps p.tables e below (T.setTop g) ((B.U.setTop { g with stack := rest }).pushFrame (.throwing q))) := by
  subst hg
  have hpl : e.platform.magicAccessors = ({} : Platform).magicAccessors := by rw [X.admits.platform]
  obtain ⟨mk, methM, cM, kP, vm₁, hnamed, hmethM, hcodeM, -, hlocalsM, -, hkP, -, hW₁, hstep₁⟩ := Steps.initColdArgs (e := e) X.here hexec X.warmed hpl hown hy1 hy hlink hinst hcode (f := g) rfl hlen hstack hdg
  have X₁ := X.noted hW₁
  rcases hK g.method meth c ⟨T.setVm vm₁, locs, cells, slots⟩ { g with stack := rest } (.invokespecial index) mk (Value.ref a :: argsL).toArray X₁ rfl hsize hdg hW (X₁.named hnamed) (hpre vm₁ X₁.warmed) with ⟨v, B, X', hpost, hsteps⟩ | ⟨q, B, X', hpost, hsteps⟩
  · exact Or.inl ⟨v, vm₁, B, X₁.warmed, X', hpost, fun target h => hstep₁ _ fun acts => by rw [doInvoke_state]; exact hsteps.trans h⟩
  · exact Or.inr ⟨q, vm₁, B, X₁.warmed, X', hpost, hstep₁ _ fun acts => by rw [doInvoke_state]; exact hsteps⟩
end VXIA
section VXIB
variable {p : Program} {l : Launch} {e : Env} {R : Room} {s : State} {m : MethodId} {args : Array Value} {below : List Frame} {meth : Method} {c : Code} {H : Heap} {locs : List Loc} {cells slots : Nat}
variable {y : MethodName} {bytes cc : ByteArray} {maxL nL mc ms n index : Nat} {ret : Option FieldType} {ws : List Cond} {rm : Room} {Pc : Array Value → State → Prop} {Qc : Array Value → State → Outcome → State → Prop} {XC : String → State → State → Prop} {free : Addr → Prop} {Ts : List Cond} {own C : String} {b : Addr} {As rest : List Value} {g : JFrame}
theorem vx_runI (S : CallFix p m c cc nL s args Ts own) (hM : vx_Met l y ws rm Pc Qc XC mc ms free) (cw : CallB R s args own index y bytes maxL none ws rm mc ms n ∧ y.name = "<init>" ∧ (Cond.instanceMethod y).before args s = true) (hp : PreS s H Pc (.ref b :: As))
    (hg : g.method = m) (hn : As.length = n) (hsize : g.locals.size = nL) (hstack : g.stack = As.reverse ++ .ref b :: rest) (hW : 2 * g.monitorRoom + (rest.map fun v => v.category).sum ≤ 8) (hdg : decode cc g.pc = .ok (.invokespecial index, 3)) (hf : cells + mc ≤ R.cells ∧ slots + ms ≤ R.slots) :
    vx_Run p l e R s m args below meth c H locs cells slots mc ms g rest (Qc (Value.ref b :: As).toArray) XC free := by
  have hK : vx_Back l R p e below s args y 3 8 (PreOf R mc ms Pc) (PostOf Qc mc ms free) (vx_Post XC mc ms free) := vx_callBack cw.1 hM hp.1
  obtain ⟨⟨-, -, -, -, -, -, hcode, -, hy, hlen, hl⟩, hy1, hin⟩ := cw
  obtain ⟨hx, hb, hml, ho, -⟩ := S
  have hPc := hp.2
  intro T hT X
  rcases vx_callI X hx (bytes := bytes) (maxL := maxL) ho hy1 hl hin hcode hy hK hg (hsize.trans hml.symm) (a := b) (argsL := As) (rest := rest) (fun sig h => hn.trans (hlen sig h)) hstack hW (by rw [hb]; exact hdg)
    (fun vm₁ hW₁ => ⟨hf.1, hf.2, hPc (T.setVm vm₁) hT hW₁⟩) with ⟨v, vm₁, ⟨U', l2, c2, s2⟩, hW₁, X', ⟨g', mk, t, L, e1, e2, hq, h1, hL, h2, h3⟩, st⟩ | ⟨q, vm₁, ⟨U', l2, c2, s2⟩, hW₁, X', ⟨g', mk, t, L, E, ce, e1, e2, hq, hce, hcv, hcl, h1, hL, h2, h3⟩, st⟩
  · dsimp only [Pt.U, Pt.locs, Pt.cells, Pt.slots] at X' e1 e2 h1 h2 h3 st
    subst h1; subst h2; subst h3
    exact Or.inl ⟨v, (T.setVm vm₁).calling g' mk (Value.ref b :: As).toArray, t, U', L, hT, X', hL, e1, e2, hq, st⟩
  · dsimp only [Pt.U, Pt.locs, Pt.cells, Pt.slots] at X' e1 e2 h1 h2 h3 st hcl
    subst h1; subst h2; subst h3
    exact Or.inr ⟨q, (T.setVm vm₁).calling g' mk (Value.ref b :: As).toArray, t, U', L, E, ce, hT, X', hL, e1, e2, hq, hce, hcv, vx_cls hW₁ hcl, st⟩
end VXIB
/-! ===== END ===== -/
/-! calls, and a method's contract out of its walk -/
def wfv (n : Nat) (v : Value) : Bool := match v with
  | .ref k => Nat.ble (k + 1) n || Nat.ble 1000 k
  | _ => true
theorem wfv_tv {n : Nat} {v : Value} {ad ad' : Nat → Nat} (h : wfv n v = true) (e : ∀ k, (k < n ∨ 1000 ≤ k) → ad' k = ad k) : tv ad' v = tv ad v := by
  cases v with
  | ref k =>
    simp only [wfv, Bool.or_eq_true] at h
    show Value.ref (ad' k) = Value.ref (ad k)
    rw [e k]
    rcases h with h | h
    · exact Or.inl (Nat.le_of_ble_eq_true h)
    · exact Or.inr (Nat.le_of_ble_eq_true h)
  | _ => rfl
theorem wfl_tl {n : Nat} {lv : List (Nat × Value)} {ad ad' : Nat → Nat} (h : lv.all (fun q => wfv n q.2) = true) (e : ∀ k, (k < n ∨ 1000 ≤ k) → ad' k = ad k) : tl ad' lv = tl ad lv := by
  refine List.map_congr_left (fun q hq => ?_)
  rw [wfv_tv (List.all_eq_true.mp h q hq) e]
theorem wfs_tv {n : Nat} {st : List Value} {ad ad' : Nat → Nat} (h : st.all (wfv n) = true) (e : ∀ k, (k < n ∨ 1000 ≤ k) → ad' k = ad k) : st.map (tv ad') = st.map (tv ad) :=
  List.map_congr_left (fun q hq => wfv_tv (List.all_eq_true.mp h q hq) e)
def wfc (n : Nat) (c : AC) : Bool := match c with
  | .inl o => o.2.all (wfv n)
  | .inr _ => true
theorem wfc_cE {n : Nat} {c : AC} {dA : Nat → ClassId} {ad ad' : Nat → Nat} (h : wfc n c = true) (e : ∀ k, (k < n ∨ 1000 ≤ k) → ad' k = ad k) : cE dA ad' c = cE dA ad c := by
  cases c with
  | inl o => simp only [cE]; rw [wfs_tv h e]
  | inr a => rfl
theorem wfh_cW {h : AH} {dA : Nat → ClassId} {ad ad' : Nat → Nat} (hw : h.all (wfc h.length) = true) (e : ∀ k, (k < h.length ∨ 1000 ≤ k) → ad' k = ad k) : cW dA ad' h = cW dA ad h := by
  apply List.ext_getElem?
  intro i
  simp only [cW, List.getElem?_mapIdx]
  cases hi : h[i]? with
  | none => rfl
  | some c =>
    have hl : i < h.length := (List.getElem?_eq_some_iff.mp hi).1
    simp only [Option.map_some]
    rw [e i (Or.inl hl), wfc_cE (List.all_eq_true.mp hw c (List.mem_of_getElem? hi)) e]
def CK (X : XS) (mi pc : Nat) (lv : List (Nat × Value)) (rest : List Value) (bc bs : Nat) (Q : AO → AH → Prop) (o : AO) (h : AH) : Prop := match o with
  | .inl none => AW X mi (pc + 3) lv rest h bc bs Q
  | .inl (some v) => AW X mi (pc + 3) lv (v :: rest) h bc bs Q
  | .inr en => mH mi = [] ∧ Q (.inr en) h
theorem mW_code {mj : Nat} (h : mH mj = []) : mW mj = .code (mY mj) (mB mj) (mL mj) (mR mj) := by unfold mW; rw [if_pos h]
theorem mW_with {mj : Nat} (h : ¬ mH mj = []) : mW mj = .codeWith (mY mj) (mB mj) (mL mj) (mR mj) (mH mj) := by unfold mW; rw [if_neg h]
theorem mW_good {mj : Nat} (hj : mj < 151) : GoodIn XU (mW mj :: XU) := GoodIn_XU fun w hw => by
  rcases List.mem_cons.mp hw with rfl | hw
  · exact (yw mj hj).2.1
  · exact hw
theorem CP_blind {X : XS} {β : Nat} {D : va_G} {dA : Nat → ClassId} {ad sa : Nat → Nat} {h : AH} {as : List Value} : FrameBlind (va_Pc as (CP X β D dA ad sa h)) := by
  intro a U g mk q
  obtain ⟨e, hsw, hb, hP, hD⟩ := q
  exact ⟨e, SW.warm (u := U) (U := U.calling g mk a) hsw (State.WarmedH.refl U) (fun _ _ _ => rfl), hb, hP, hD⟩
section RUN
variable {X : XS} {mi mj pc : Nat} {lv : List (Nat × Value)} {rest : List Value} {h : AH} {bc bs : Nat} {Q : AO → AH → Prop} {n0 : Nat} {p : Program} {l : Launch} {e : Env} {R : Room} {s : State} {m : MethodId} {args : Array Value} {below : List Frame} {meth : Method} {c : Code} {β : Nat} {D : va_G} {dA : Nat → ClassId} {ad0 sa : Nat → Nat} {Qf : State → Prop}
theorem CP_at (C : Cx X mi Q n0 p l e R s m args below meth c β D dA ad0 sa Qf) {ad : Nat → Nat} {H : Heap} {locs : List Loc} (ha : adOk mi n0 ad0 ad) (hR : HR D dA β ad h s.heap H locs) (U : State) (hU : U.heap = H) (hW : s.WarmedH U.vm) : CP X β D dA ad sa h U :=
  ⟨by rw [hU]; exact ((C.2.2.2.2.2.2.1.warm hW (fun a h1 h2 => hR.2.2.2.1 a h1 h2)).ad (fun k hk => ha.2 k (Or.inr hk))), by rw [hU]; exact Nat.le_trans C.2.2.2.2.2.2.2.1 hR.2.2.1, by rw [hU]; exact hR.1, hR.2.1⟩
/-- behind a call -/
theorem run_go (C : Cx X mi Q n0 p l e R s m args below meth c β D dA ad0 sa Qf) {ad : Nat → Nat} {H : Heap} {locs : List Loc} {cells slots : Nat} {ls : Array Slot} {st0 : List Value} {a : Array Value} (ha : adOk mi n0 ad0 ad) (hn : n0 ≤ h.length) (hR : HR D dA β ad h s.heap H locs) (hl : lv_has ls (mL mi) (tl ad lv)) (hc : cells + bc ≤ R.cells) (hs : slots + bs ≤ R.slots) (hb : mC mj ≤ bc ∧ mS mj ≤ bs)
    (hA : mA mj = 0 ∨ (mA mi = 1 ∧ lv.all (fun q => wfv h.length q.2) = true ∧ rest.all (wfv h.length) = true))
    (hr : vx_Run p l e R s m args below meth c H locs cells slots (mC mj) (mS mj) (F0 m pc ls st0) (rest.map (tv ad)) (CQ mj h.length β D dA ad (CK X mi pc lv rest (bc - mC mj) (bs - mS mj) Q) a) (CX mj h.length β D dA ad (CK X mi pc lv rest (bc - mC mj) (bs - mS mj) Q)) (fun q : Nat => β ≤ q)) :
    W p l e R s m args below meth c H locs cells slots Qf (F0 m pc ls st0) := by
  intro T hT Y
  have key : ∀ (ad' : Nat → Nat), adOk mj h.length ad ad' → ∀ (h' : AH), h.length ≤ h'.length → adOk mi n0 ad0 ad' ∧ n0 ≤ h'.length ∧ tl ad' lv = tl ad lv ∧ rest.map (tv ad') = rest.map (tv ad) := by
    intro ad' hk h' hlen
    rcases hA with hA | ⟨h1, h2, h3⟩
    · have e := hk.1 hA
      subst e
      exact ⟨ha, Nat.le_trans hn hlen, rfl, rfl⟩
    · exact ⟨⟨fun z => absurd (h1.symm.trans z) (by decide), fun k hk' => (hk.2 k (hk'.imp (fun y => Nat.lt_of_lt_of_le y hn) id)).trans (ha.2 k hk')⟩, Nat.le_trans hn hlen, wfl_tl h2 hk.2, wfs_tv h3 hk.2⟩
  rcases hr T hT Y with ⟨v, st₀, t, T', L, h0, Y', hL, e1, e2, ⟨⟨v', h', ad', hv, hQ, hadk, hlen', hP', hD'⟩, hF⟩, st⟩ | ⟨q, st₀, t, T', L, E, ce, h0, Y', hL, e1, e2, ⟨⟨en, h', ad', hE, hQ, hadk, hlen', hP', hD'⟩, hF⟩, hce, hcv, hcl, st⟩
  · obtain ⟨k1, k2, k3⟩ := vx_keep h0 e1 hR.2.2 (fun _ _ z => z) (fun _ z => z) hL hF
    obtain ⟨g1, g2, g3, g4⟩ := key ad' hadk h' hlen'
    have hR' : HR D dA β ad' h' s.heap T'.heap (locs ++ L) := ⟨by rw [e1]; exact hP', hD', k3⟩
    cases v' with
    | none =>
      cases hv
      have k : AW X mi (pc + 3) lv rest h' (bc - mC mj) (bs - mS mj) Q := hQ
      obtain ⟨t2, a1, b1⟩ := k n0 p l e R s m args below meth c β D dA ad0 sa Qf C ad' T'.heap (locs ++ L) (cells + mC mj) (slots + mS mj) ls g1 g2 hR' (by rw [g3]; exact hl) (by omega) (by omega) T' rfl Y'
      rw [g4] at a1
      exact ⟨t2, st t2 a1, b1⟩
    | some v1 =>
      cases hv
      have k : AW X mi (pc + 3) lv (v1 :: rest) h' (bc - mC mj) (bs - mS mj) Q := hQ
      obtain ⟨t2, a1, b1⟩ := k n0 p l e R s m args below meth c β D dA ad0 sa Qf C ad' T'.heap (locs ++ L) (cells + mC mj) (slots + mS mj) ls g1 g2 hR' (by rw [g3]; exact hl) (by omega) (by omega) T' rfl Y'
      rw [List.map_cons, g4] at a1
      exact ⟨t2, st t2 a1, b1⟩
  · obtain ⟨k1, k2, k3⟩ := vx_keep h0 e1 hR.2.2 (fun _ _ z => z) (fun _ z => z) hL hF
    obtain ⟨g1, g2, g3, g4⟩ := key ad' hadk h' hlen'
    obtain ⟨hmH, hQ⟩ : mH mi = [] ∧ Q (.inr en) h' := hQ
    obtain ⟨t2, a1, b1⟩ := C.2.2.2.2.2.2.2.2.2.2.2.2.1 en h' ad' T'.heap (locs ++ L) (cells + mC mj) (slots + mS mj) pc ls (rest.map (tv ad)) q ce hQ hmH g1 g2 ⟨by rw [e1]; exact hP', hD', k3⟩ (by omega) (by omega) (by rw [e1]; exact hce) hcv (by rw [← hE]; exact hcl) T' rfl Y'
    exact ⟨t2, st.trans a1, b1⟩
end RUN
def cfB (mi pc i mj k nest n : Nat) : Bool := decide (mi < 152) && decide (mj < 151) && decide (decode (mB mi) pc = .ok ((if k = 0 then .invokestatic i else if k = 1 then .invokevirtual i else .invokespecial i), 3)) && (lks (mD mi)).contains (i, nest, mj, 0) && decide (mK mj = k) && decide (mN mj = n) && decide (mV mj + 1 ≤ mV mi) && decide (mH mj = []) && decide (nest = 4 ∨ (nest = 9 ∧ k = 0))
theorem room_ok {R : Room} {mi mj : Nat} (hj : mj < 151) (hv : mV mj + 1 ≤ mV mi) (hR : mV mi ≤ R.frames ∧ 64 * mV mi ≤ R.locals) : (mRm mj).frames + 1 ≤ R.frames ∧ 8 + (mL mj + 11) + (mRm mj).locals ≤ R.locals := by
  have h1 := (yw mj hj).1
  simp only [yb, Bool.and_eq_true, decide_eq_true_eq] at h1
  have h2 : mL mj + 19 ≤ 64 := h1.1.2
  simp only [mRm]
  omega
theorem desc_ok {mj n : Nat} (hj : mj < 151) (hn : mN mj = n) : (mY mj).cls ≠ "java/lang/invoke/MethodHandle" ∧ (mY mj).cls ≠ "java/lang/invoke/VarHandle" ∧ (parseMethodDescriptor (mY mj).desc).map (fun d => d.parameters.length) = some n := by
  have h1 := (yw mj hj).1
  simp only [yb, Bool.and_eq_true, decide_eq_true_eq] at h1
  rw [← hn]
  exact ⟨h1.1.1.1.1.1.2, h1.1.1.1.1.2, h1.1.1.1.2⟩
section CALLS
variable {X : XS} {mi mj pc i n : Nat} {lv : List (Nat × Value)} {rest : List Value} {h : AH} {bc bs : Nat} {Q : AO → AH → Prop} {as : List Value}
theorem a_callS {nest : Nat} (q : cfB mi pc i mj 0 nest n = true) (hn' : as.length = n) (hw : Nat.ble (rest.map fun v => v.category).sum 8 = true) (hb : Nat.ble (mC mj) bc = true ∧ Nat.ble (mS mj) bs = true)
    (hA : mA mj = 0 ∨ (mA mi = 1 ∧ lv.all (fun q => wfv h.length q.2) = true ∧ rest.all (wfv h.length) = true))
    (k : Call X mj as h (CK X mi pc lv rest (bc - mC mj) (bs - mS mj) Q)) : AW X mi pc lv (as.reverse ++ rest) h bc bs Q := by
  intro n0 p l e R s m args below meth c β D dA ad0 sa Qf C ad H locs cells slots ls ha hn hR hl hc hs
  simp only [cfB, Bool.and_eq_true, decide_eq_true_eq] at q
  obtain ⟨⟨⟨⟨⟨⟨⟨⟨hm, hj⟩, d⟩, hlk⟩, hkd⟩, hnn⟩, hv⟩, hH⟩, hne⟩ := q
  have hts := C.2.2.2.2.1
  obtain ⟨-, hy2, hy3, hy4⟩ := yw mj hj
  have hstt : (Cond.static (mY mj)).before args s = true := by
    unfold yw_k at hy4
    rw [hkd] at hy4
    exact hts _ hy4
  have hrm := room_ok (R := R) hj hv C.2.2.2.2.2.2.2.2.2.1
  have hM := k l β D dA ad sa C.2.2.2.2.2.1
  have hstk : List.map (tv ad) (as.reverse ++ rest) = (as.map (tv ad)).reverse ++ rest.map (tv ad) := by rw [List.map_append, List.map_reverse]
  rw [hstk]
  refine run_go C ha hn hR hl hc hs ⟨Nat.le_of_ble_eq_true hb.1, Nat.le_of_ble_eq_true hb.2⟩ hA (a := (as.map (tv ad)).toArray) ?_
  have hp : PreS s H (va_Pc (as.map (tv ad)) (CP X β D dA ad sa h)) (as.map (tv ad)) := ⟨CP_blind, fun U hU hW => ⟨rfl, CP_at C ha hR U hU hW⟩⟩
  have hrest : ((rest.map (tv ad)).map fun v => v.category).sum ≤ 8 := by
    rw [List.map_map]
    have := Nat.le_of_ble_eq_true hw
    simpa [Function.comp_def, tv_cat] using this
  have hf : cells + mC mj ≤ R.cells ∧ slots + mS mj ≤ R.slots := ⟨by have := Nat.le_of_ble_eq_true hb.1; omega, by have := Nat.le_of_ble_eq_true hb.2; omega⟩
  rcases hne with rfl | ⟨rfl, -⟩
  · have hlink := lk_bef hm hlk (Nat.le_of_ble_eq_true rfl) hts
    simp only [lkw] at hlink
    rw [dN_ok2 mi hm] at hlink
    exact vx_runS ⟨C.1, C.2.1, C.2.2.1, C.2.2.2.1, hts⟩ hM ⟨callB_of n hts (mW_good hj) (by rw [mW_code hH]) rfl rfl (hts _ hy3) hlink (desc_ok hj hnn) hrm, hstt⟩ hp rfl (by rw [List.length_map]; exact hn') hl.1 rfl (lv_room hrest) d hf
  · have hin := nst_in (mD mi) (i, 9, mj, 0) (by simpa using hlk) (Or.inr rfl)
    have hlink := C.2.2.2.2.2.2.1.2.2.2.2.2.2.1 _ hin
    simp only [lkw] at hlink
    rw [dN_ok2 mi hm] at hlink
    exact vx_runSN ⟨C.1, C.2.1, C.2.2.1, C.2.2.2.1, hts⟩ hM ⟨va_cnB n hts (mW_good hj) (by rw [mW_code hH]) rfl rfl hlink (hts _ hy3) (desc_ok hj hnn) hrm, hstt, trivial⟩ hp rfl (by rw [List.length_map]; exact hn') hl.1 rfl (lv_room hrest) d hf
theorem a_callV {o : Nat} {fs : List Value} (q : cfB mi pc i mj 1 4 n = true) (hn' : as.length = n) (ho : h[o]? = some (.inl (mO mj, fs))) (hw : Nat.ble (rest.map fun v => v.category).sum 8 = true) (hb : Nat.ble (mC mj) bc = true ∧ Nat.ble (mS mj) bs = true)
    (hA : mA mj = 0 ∨ (mA mi = 1 ∧ lv.all (fun q => wfv h.length q.2) = true ∧ rest.all (wfv h.length) = true))
    (k : Call X mj (.ref o :: as) h (CK X mi pc lv rest (bc - mC mj) (bs - mS mj) Q)) : AW X mi pc lv (as.reverse ++ .ref o :: rest) h bc bs Q := by
  intro n0 p l e R s m args below meth c β D dA ad0 sa Qf C ad H locs cells slots ls ha hn hR hl hc hs
  simp only [cfB, Bool.and_eq_true, decide_eq_true_eq] at q
  obtain ⟨⟨⟨⟨⟨⟨⟨⟨hm, hj⟩, d⟩, hlk⟩, hkd⟩, hnn⟩, hv⟩, hH⟩, hne⟩ := q
  have hts := C.2.2.2.2.1
  obtain ⟨-, hy2, hy3, hy4⟩ := yw mj hj
  have hy5 : Cond.instanceMethod (mY mj) ∈ XU ∧ Cond.selects (mY mj).cls (mY mj) (mY mj) ∈ XU ∧ (kC (mO mj)).1 = (mY mj).cls ∧ mO mj < 8 := by
    unfold yw_k at hy4
    rw [hkd] at hy4
    exact hy4
  obtain ⟨hi1, hi2, hi3, hi4⟩ := hy5
  have hrm := room_ok (R := R) hj hv C.2.2.2.2.2.2.2.2.2.1
  have hM := k l β D dA ad sa C.2.2.2.2.2.1
  have hstk : List.map (tv ad) (as.reverse ++ .ref o :: rest) = (as.map (tv ad)).reverse ++ .ref (ad o) :: rest.map (tv ad) := by rw [List.map_append, List.map_reverse, List.map_cons]; rfl
  rw [hstk]
  refine run_go C ha hn hR hl hc hs ⟨Nat.le_of_ble_eq_true hb.1, Nat.le_of_ble_eq_true hb.2⟩ hA (a := (Value.ref (ad o) :: as.map (tv ad)).toArray) ?_
  have hrv := va_recv C.2.2.2.2.2.2.1.1 hR.1 (kok (mO mj) hi4).1 (cW_get ho)
  rw [hi3] at hrv
  have hp : PreV s H (mY mj).cls (ad o) (va_Pc ((Value.ref o :: as).map (tv ad)) (CP X β D dA ad sa h)) (as.map (tv ad)) := ⟨CP_blind, hrv, fun U hU hW => ⟨rfl, CP_at C ha hR U hU hW⟩⟩
  have hrest : ((rest.map (tv ad)).map fun v => v.category).sum ≤ 8 := by
    rw [List.map_map]
    have := Nat.le_of_ble_eq_true hw
    simpa [Function.comp_def, tv_cat] using this
  have hf : cells + mC mj ≤ R.cells ∧ slots + mS mj ≤ R.slots := ⟨by have := Nat.le_of_ble_eq_true hb.1; omega, by have := Nat.le_of_ble_eq_true hb.2; omega⟩
  have hlink := lk_bef hm hlk (Nat.le_of_ble_eq_true rfl) hts
  simp only [lkw] at hlink
  rw [dN_ok2 mi hm] at hlink
  exact vx_runV ⟨C.1, C.2.1, C.2.2.1, C.2.2.2.1, hts⟩ hM ⟨callB_of n hts (mW_good hj) (by rw [mW_code hH]) rfl rfl (hts _ hy3) hlink (desc_ok hj hnn) hrm, hts _ hi1, hts _ hi2⟩ hp rfl (by rw [List.length_map]; exact hn') hl.1 rfl (lv_room hrest) d hf
theorem a_callI {o : Nat} (q : cfB mi pc i mj 2 4 n = true) (hn' : as.length = n) (hw : Nat.ble (rest.map fun v => v.category).sum 8 = true) (hb : Nat.ble (mC mj) bc = true ∧ Nat.ble (mS mj) bs = true)
    (hA : mA mj = 0 ∨ (mA mi = 1 ∧ lv.all (fun q => wfv h.length q.2) = true ∧ rest.all (wfv h.length) = true))
    (k : Call X mj (.ref o :: as) h (CK X mi pc lv rest (bc - mC mj) (bs - mS mj) Q)) : AW X mi pc lv (as.reverse ++ .ref o :: rest) h bc bs Q := by
  intro n0 p l e R s m args below meth c β D dA ad0 sa Qf C ad H locs cells slots ls ha hn hR hl hc hs
  simp only [cfB, Bool.and_eq_true, decide_eq_true_eq] at q
  obtain ⟨⟨⟨⟨⟨⟨⟨⟨hm, hj⟩, d⟩, hlk⟩, hkd⟩, hnn⟩, hv⟩, hH⟩, hne⟩ := q
  have hts := C.2.2.2.2.1
  obtain ⟨-, hy2, hy3, hy4⟩ := yw mj hj
  have hy5 : Cond.instanceMethod (mY mj) ∈ XU ∧ (mY mj).name = "<init>" ∧ mR mj = none := by
    unfold yw_k at hy4
    rw [hkd] at hy4
    exact hy4
  obtain ⟨hi1, hi2, hi3⟩ := hy5
  have hrm := room_ok (R := R) hj hv C.2.2.2.2.2.2.2.2.2.1
  have hM := k l β D dA ad sa C.2.2.2.2.2.1
  have hstk : List.map (tv ad) (as.reverse ++ .ref o :: rest) = (as.map (tv ad)).reverse ++ .ref (ad o) :: rest.map (tv ad) := by rw [List.map_append, List.map_reverse, List.map_cons]; rfl
  rw [hstk]
  refine run_go C ha hn hR hl hc hs ⟨Nat.le_of_ble_eq_true hb.1, Nat.le_of_ble_eq_true hb.2⟩ hA (a := (Value.ref (ad o) :: as.map (tv ad)).toArray) ?_
  have hp : PreS s H (va_Pc ((Value.ref o :: as).map (tv ad)) (CP X β D dA ad sa h)) (.ref (ad o) :: as.map (tv ad)) := ⟨CP_blind, fun U hU hW => ⟨rfl, CP_at C ha hR U hU hW⟩⟩
  have hrest : ((rest.map (tv ad)).map fun v => v.category).sum ≤ 8 := by
    rw [List.map_map]
    have := Nat.le_of_ble_eq_true hw
    simpa [Function.comp_def, tv_cat] using this
  have hf : cells + mC mj ≤ R.cells ∧ slots + mS mj ≤ R.slots := ⟨by have := Nat.le_of_ble_eq_true hb.1; omega, by have := Nat.le_of_ble_eq_true hb.2; omega⟩
  have hlink := lk_bef hm hlk (Nat.le_of_ble_eq_true rfl) hts
  simp only [lkw] at hlink
  rw [dN_ok2 mi hm] at hlink
  exact vx_runI ⟨C.1, C.2.1, C.2.2.1, C.2.2.2.1, hts⟩ hM ⟨callB_of n hts (mW_good hj) (by rw [mW_code hH, hi3]) rfl rfl (hts _ hy3) hlink (desc_ok hj hnn) hrm, hi2, hts _ hi1⟩ hp rfl (by rw [List.length_map]; exact hn') hl.1 rfl (lv_room hrest) d hf
end CALLS
section CALLN
variable {X : XS} {mi mj pc i : Nat} {lv : List (Nat × Value)} {rest : List Value} {h : AH} {bc bs : Nat} {Q : AO → AH → Prop}
theorem a_cs0 {nest : Nat} (q : cfB mi pc i mj 0 nest 0 = true) (hw : Nat.ble (rest.map fun v => v.category).sum 8 = true) (hb : Nat.ble (mC mj) bc = true ∧ Nat.ble (mS mj) bs = true) (hA : mA mj = 0) (k : Call X mj [] h (CK X mi pc lv rest (bc - mC mj) (bs - mS mj) Q)) : AW X mi pc lv (rest) h bc bs Q := a_callS (as := []) q rfl hw hb (Or.inl hA) k
theorem a_cv0 {o : Nat} {fs : List Value} (q : cfB mi pc i mj 1 4 0 = true) (ho : h[o]? = some (.inl (mO mj, fs))) (hw : Nat.ble (rest.map fun v => v.category).sum 8 = true) (hb : Nat.ble (mC mj) bc = true ∧ Nat.ble (mS mj) bs = true) (hA : mA mj = 0) (k : Call X mj (.ref o :: []) h (CK X mi pc lv rest (bc - mC mj) (bs - mS mj) Q)) : AW X mi pc lv (.ref o :: rest) h bc bs Q := a_callV (as := []) q rfl ho hw hb (Or.inl hA) k
theorem a_cs1 {nest : Nat} {v1 : Value} (q : cfB mi pc i mj 0 nest 1 = true) (hw : Nat.ble (rest.map fun v => v.category).sum 8 = true) (hb : Nat.ble (mC mj) bc = true ∧ Nat.ble (mS mj) bs = true) (hA : mA mj = 0) (k : Call X mj [v1] h (CK X mi pc lv rest (bc - mC mj) (bs - mS mj) Q)) : AW X mi pc lv (v1 :: rest) h bc bs Q := a_callS (as := [v1]) q rfl hw hb (Or.inl hA) k
theorem a_cv1 {v1 : Value} {o : Nat} {fs : List Value} (q : cfB mi pc i mj 1 4 1 = true) (ho : h[o]? = some (.inl (mO mj, fs))) (hw : Nat.ble (rest.map fun v => v.category).sum 8 = true) (hb : Nat.ble (mC mj) bc = true ∧ Nat.ble (mS mj) bs = true) (hA : mA mj = 0) (k : Call X mj (.ref o :: [v1]) h (CK X mi pc lv rest (bc - mC mj) (bs - mS mj) Q)) : AW X mi pc lv (v1 :: .ref o :: rest) h bc bs Q := a_callV (as := [v1]) q rfl ho hw hb (Or.inl hA) k
theorem a_cs2 {nest : Nat} {v1 v2 : Value} (q : cfB mi pc i mj 0 nest 2 = true) (hw : Nat.ble (rest.map fun v => v.category).sum 8 = true) (hb : Nat.ble (mC mj) bc = true ∧ Nat.ble (mS mj) bs = true) (hA : mA mj = 0) (k : Call X mj [v1, v2] h (CK X mi pc lv rest (bc - mC mj) (bs - mS mj) Q)) : AW X mi pc lv (v2 :: v1 :: rest) h bc bs Q := a_callS (as := [v1, v2]) q rfl hw hb (Or.inl hA) k
theorem a_cv2 {v1 v2 : Value} {o : Nat} {fs : List Value} (q : cfB mi pc i mj 1 4 2 = true) (ho : h[o]? = some (.inl (mO mj, fs))) (hw : Nat.ble (rest.map fun v => v.category).sum 8 = true) (hb : Nat.ble (mC mj) bc = true ∧ Nat.ble (mS mj) bs = true) (hA : mA mj = 0) (k : Call X mj (.ref o :: [v1, v2]) h (CK X mi pc lv rest (bc - mC mj) (bs - mS mj) Q)) : AW X mi pc lv (v2 :: v1 :: .ref o :: rest) h bc bs Q := a_callV (as := [v1, v2]) q rfl ho hw hb (Or.inl hA) k
theorem a_cs3 {nest : Nat} {v1 v2 v3 : Value} (q : cfB mi pc i mj 0 nest 3 = true) (hw : Nat.ble (rest.map fun v => v.category).sum 8 = true) (hb : Nat.ble (mC mj) bc = true ∧ Nat.ble (mS mj) bs = true) (hA : mA mj = 0) (k : Call X mj [v1, v2, v3] h (CK X mi pc lv rest (bc - mC mj) (bs - mS mj) Q)) : AW X mi pc lv (v3 :: v2 :: v1 :: rest) h bc bs Q := a_callS (as := [v1, v2, v3]) q rfl hw hb (Or.inl hA) k
theorem a_cv3 {v1 v2 v3 : Value} {o : Nat} {fs : List Value} (q : cfB mi pc i mj 1 4 3 = true) (ho : h[o]? = some (.inl (mO mj, fs))) (hw : Nat.ble (rest.map fun v => v.category).sum 8 = true) (hb : Nat.ble (mC mj) bc = true ∧ Nat.ble (mS mj) bs = true) (hA : mA mj = 0) (k : Call X mj (.ref o :: [v1, v2, v3]) h (CK X mi pc lv rest (bc - mC mj) (bs - mS mj) Q)) : AW X mi pc lv (v3 :: v2 :: v1 :: .ref o :: rest) h bc bs Q := a_callV (as := [v1, v2, v3]) q rfl ho hw hb (Or.inl hA) k
theorem a_cs4 {nest : Nat} {v1 v2 v3 v4 : Value} (q : cfB mi pc i mj 0 nest 4 = true) (hw : Nat.ble (rest.map fun v => v.category).sum 8 = true) (hb : Nat.ble (mC mj) bc = true ∧ Nat.ble (mS mj) bs = true) (hA : mA mj = 0) (k : Call X mj [v1, v2, v3, v4] h (CK X mi pc lv rest (bc - mC mj) (bs - mS mj) Q)) : AW X mi pc lv (v4 :: v3 :: v2 :: v1 :: rest) h bc bs Q := a_callS (as := [v1, v2, v3, v4]) q rfl hw hb (Or.inl hA) k
theorem a_cv4 {v1 v2 v3 v4 : Value} {o : Nat} {fs : List Value} (q : cfB mi pc i mj 1 4 4 = true) (ho : h[o]? = some (.inl (mO mj, fs))) (hw : Nat.ble (rest.map fun v => v.category).sum 8 = true) (hb : Nat.ble (mC mj) bc = true ∧ Nat.ble (mS mj) bs = true) (hA : mA mj = 0) (k : Call X mj (.ref o :: [v1, v2, v3, v4]) h (CK X mi pc lv rest (bc - mC mj) (bs - mS mj) Q)) : AW X mi pc lv (v4 :: v3 :: v2 :: v1 :: .ref o :: rest) h bc bs Q := a_callV (as := [v1, v2, v3, v4]) q rfl ho hw hb (Or.inl hA) k
theorem a_cs5 {nest : Nat} {v1 v2 v3 v4 v5 : Value} (q : cfB mi pc i mj 0 nest 5 = true) (hw : Nat.ble (rest.map fun v => v.category).sum 8 = true) (hb : Nat.ble (mC mj) bc = true ∧ Nat.ble (mS mj) bs = true) (hA : mA mj = 0) (k : Call X mj [v1, v2, v3, v4, v5] h (CK X mi pc lv rest (bc - mC mj) (bs - mS mj) Q)) : AW X mi pc lv (v5 :: v4 :: v3 :: v2 :: v1 :: rest) h bc bs Q := a_callS (as := [v1, v2, v3, v4, v5]) q rfl hw hb (Or.inl hA) k
theorem a_cv5 {v1 v2 v3 v4 v5 : Value} {o : Nat} {fs : List Value} (q : cfB mi pc i mj 1 4 5 = true) (ho : h[o]? = some (.inl (mO mj, fs))) (hw : Nat.ble (rest.map fun v => v.category).sum 8 = true) (hb : Nat.ble (mC mj) bc = true ∧ Nat.ble (mS mj) bs = true) (hA : mA mj = 0) (k : Call X mj (.ref o :: [v1, v2, v3, v4, v5]) h (CK X mi pc lv rest (bc - mC mj) (bs - mS mj) Q)) : AW X mi pc lv (v5 :: v4 :: v3 :: v2 :: v1 :: .ref o :: rest) h bc bs Q := a_callV (as := [v1, v2, v3, v4, v5]) q rfl ho hw hb (Or.inl hA) k
theorem a_cs6 {nest : Nat} {v1 v2 v3 v4 v5 v6 : Value} (q : cfB mi pc i mj 0 nest 6 = true) (hw : Nat.ble (rest.map fun v => v.category).sum 8 = true) (hb : Nat.ble (mC mj) bc = true ∧ Nat.ble (mS mj) bs = true) (hA : mA mj = 0) (k : Call X mj [v1, v2, v3, v4, v5, v6] h (CK X mi pc lv rest (bc - mC mj) (bs - mS mj) Q)) : AW X mi pc lv (v6 :: v5 :: v4 :: v3 :: v2 :: v1 :: rest) h bc bs Q := a_callS (as := [v1, v2, v3, v4, v5, v6]) q rfl hw hb (Or.inl hA) k
theorem a_cv6 {v1 v2 v3 v4 v5 v6 : Value} {o : Nat} {fs : List Value} (q : cfB mi pc i mj 1 4 6 = true) (ho : h[o]? = some (.inl (mO mj, fs))) (hw : Nat.ble (rest.map fun v => v.category).sum 8 = true) (hb : Nat.ble (mC mj) bc = true ∧ Nat.ble (mS mj) bs = true) (hA : mA mj = 0) (k : Call X mj (.ref o :: [v1, v2, v3, v4, v5, v6]) h (CK X mi pc lv rest (bc - mC mj) (bs - mS mj) Q)) : AW X mi pc lv (v6 :: v5 :: v4 :: v3 :: v2 :: v1 :: .ref o :: rest) h bc bs Q := a_callV (as := [v1, v2, v3, v4, v5, v6]) q rfl ho hw hb (Or.inl hA) k
theorem a_cs7 {nest : Nat} {v1 v2 v3 v4 v5 v6 v7 : Value} (q : cfB mi pc i mj 0 nest 7 = true) (hw : Nat.ble (rest.map fun v => v.category).sum 8 = true) (hb : Nat.ble (mC mj) bc = true ∧ Nat.ble (mS mj) bs = true) (hA : mA mj = 0) (k : Call X mj [v1, v2, v3, v4, v5, v6, v7] h (CK X mi pc lv rest (bc - mC mj) (bs - mS mj) Q)) : AW X mi pc lv (v7 :: v6 :: v5 :: v4 :: v3 :: v2 :: v1 :: rest) h bc bs Q := a_callS (as := [v1, v2, v3, v4, v5, v6, v7]) q rfl hw hb (Or.inl hA) k
theorem a_cs8 {nest : Nat} {v1 v2 v3 v4 v5 v6 v7 v8 : Value} (q : cfB mi pc i mj 0 nest 8 = true) (hw : Nat.ble (rest.map fun v => v.category).sum 8 = true) (hb : Nat.ble (mC mj) bc = true ∧ Nat.ble (mS mj) bs = true) (hA : mA mj = 0) (k : Call X mj [v1, v2, v3, v4, v5, v6, v7, v8] h (CK X mi pc lv rest (bc - mC mj) (bs - mS mj) Q)) : AW X mi pc lv (v8 :: v7 :: v6 :: v5 :: v4 :: v3 :: v2 :: v1 :: rest) h bc bs Q := a_callS (as := [v1, v2, v3, v4, v5, v6, v7, v8]) q rfl hw hb (Or.inl hA) k
end CALLN
