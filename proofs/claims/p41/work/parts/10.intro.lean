/-! a method's contract out of its walk; handlers -/
theorem lv_args_tv (ad : Nat → Nat) : ∀ (as : List Value) (i : Nat), lv_args i (as.map (tv ad)) = tl ad (lv_args i as)
  | [], _ => rfl
  | v :: vs, i => by
    rw [List.map_cons]
    unfold lv_args
    rw [tv_cat, lv_args_tv ad vs]
    rfl
theorem lg_sl_tv (ad : Nat → Nat) : ∀ (as : List Value), (lg_sl (as.map (tv ad))).length = (lg_sl as).length
  | [] => rfl
  | v :: vs => by
    have ih := lg_sl_tv ad vs
    simp only [lg_sl, List.map_cons, List.flatMap_cons, List.length_append] at ih ⊢
    rw [ih, tv_cat]
    by_cases h : v.category = 2
    · rw [if_pos h, if_pos h]; rfl
    · rw [if_neg h, if_neg h]; rfl
def exX (en : Nat) : Nat := if en = 4 then 13 else 7
def exR (en : Nat) : ByteArray := if en = 4 then ⟨#[0x2a, 0x2b, 0xb7, 0x00, 0x0d, 0xb1]⟩ else Bundle.six
abbrev exW (en : Nat) : List Cond := vn_at "Plotwise" (exI.getD en 0) (exN.getD en "") (exX en) (exR en) ["java/lang/RuntimeException", "java/lang/Exception"]
def atB (en : Nat) : Bool := (exW en).all (fun w => decide (w ∈ tables_1) && (goodWord w || isNG w) && vx_ot w) && Bundle.fit (exN.getD en "") && decide (Cond.initialized (exN.getD en "") ∈ tables_1) && goodWord (Cond.initialized (exN.getD en "")) && decide (Cond.castable (exN.getD en "") (exN.getD en "") ∈ tables_1) && (decide (decode (exR en) 0 = .ok (.aload_n 0, 1)) && decide (decode (exR en) 1 = .ok (.aload_n 1, 1)) && decide (decode (exR en) 2 = .ok (.invokespecial (exX en), 3)) && decide (decode (exR en) 5 = .ok (.return_, 1)))
set_option maxRecDepth 100000 in
theorem at0 : atB 0 = true := by decide +kernel
set_option maxRecDepth 100000 in
theorem at1 : atB 1 = true := by decide +kernel
set_option maxRecDepth 100000 in
theorem at2 : atB 2 = true := by decide +kernel
set_option maxRecDepth 100000 in
theorem at3 : atB 3 = true := by decide +kernel
set_option maxRecDepth 100000 in
theorem at4 : atB 4 = true := by decide +kernel
set_option maxRecDepth 100000 in
theorem at5 : atB 5 = true := by decide +kernel
theorem at_ok (en : Nat) (h : en < 6) : atB en = true := by
  match en, h with
  | 0, _ => exact at0
  | 1, _ => exact at1
  | 2, _ => exact at2
  | 3, _ => exact at3
  | 4, _ => exact at4
  | 5, _ => exact at5
  | en + 6, h => exact absurd h (by omega)
section ENDS
variable {X : XS} {mi : Nat} {h : AH} {Q : AO → AH → Prop} {as : List Value} {p : Program} {l : Launch} {e : Env} {s : State} {m : MethodId} {args : Array Value} {below : List Frame} {meth : Method} {c : Code} {β : Nat} {D : va_G} {dA : Nat → ClassId} {ad0 sa : Nat → Nat} {n0 : Nat}
theorem fin1 (hx : p.tables.exec = Jvm.exec) (hb : c.code = mB mi) (hr : meth.sig.returnType = mR mi) (hlk : meth.locks = false) : Fin1 mi Q n0 p l e (mRm mi) s m args below meth c β D dA ad0 (vx_MQ below (CQ mi n0 β D dA ad0 Q) (CX mi n0 β D dA ad0 Q) args s (mC mi) (mS mi) (fun q : Nat => β ≤ q)) := by
  intro v h ad H locs cells slots pc ls ins hQ hret d ha hn hR hc hs
  refine W.widen hc hs (vx_ret ?_)
  have hq : ∀ (o : Option Value), o = v.map (tv ad) → ∀ t : State, t.heap = H → s.WarmedH t.vm → CQ mi n0 β D dA ad0 Q args s (.returned o) t := fun o ho t ht hW =>
    ⟨⟨v, h, ad, by rw [ho], hQ, ha, hn, by rw [ht]; exact hR.1, hR.2.1⟩, hR.2.2.F ht⟩
  cases ins with
  | return_ =>
    obtain ⟨rfl, h2⟩ := hret
    exact W.vret hx hb (hr.trans h2) (hq none rfl) hR.2.2.2.2 d hlk
  | ireturn =>
    obtain ⟨x, rfl, ty, h2, h3⟩ := hret
    exact W.zret hx hb (hr.trans h2) h3 (hq _ rfl) hR.2.2.2.2 d hlk
  | lreturn =>
    obtain ⟨x, rfl, h2⟩ := hret
    exact W.lret hx hb (hr.trans h2) (hq _ rfl) hR.2.2.2.2 d hlk
  | freturn =>
    obtain ⟨x, rfl, h2⟩ := hret
    exact W.fret hx hb (hr.trans h2) (hq _ rfl) hR.2.2.2.2 d hlk
  | dreturn =>
    obtain ⟨x, rfl, h2⟩ := hret
    exact W.dret hx hb (hr.trans h2) (hq _ rfl) hR.2.2.2.2 d hlk
  | areturn =>
    obtain ⟨x, rfl, rt, h2, h3⟩ := hret
    exact W.aret hx hb (hr.trans h2) h3 (Or.inr ⟨_, rfl⟩) (hq _ rfl) hR.2.2.2.2 d hlk
  | _ => exact False.elim hret
theorem fin2 (ht : c.exceptionTable.toList = tableOf (mH mi)) (hlk : meth.locks = false) : Fin2 mi Q n0 p l e (mRm mi) s m args below meth c β D dA ad0 (vx_MQ below (CQ mi n0 β D dA ad0 Q) (CX mi n0 β D dA ad0 Q) args s (mC mi) (mS mi) (fun q : Nat => β ≤ q)) := by
  intro en h ad H locs cells slots pc ls rest q ce hQ hmH ha hn hR hc hs hce hcv hcl
  refine vx_out (E := exN.getD en "") (fun x hx => ?_) hlk hce hcv hcl (fun t ht hW => ⟨⟨en, h, ad, rfl, hQ, ha, hn, by rw [ht]; exact hR.1, hR.2.1⟩, hR.2.2.F ht⟩) hR.2.2.2.2 hc hs
  rw [ht, hmH] at hx
  cases hx
theorem fin3 (hx : p.tables.exec = Jvm.exec) (hb : c.code = mB mi) (hml : c.maxLocals = mL mi) (hown : s.vm.findClass (mY mi).cls = some m.cls) (hts : ∀ w ∈ XU, w.before args s = true) (hst : l.stackTraces = false) (hsw : SW X β D dA ad0 sa s s.heap) (hm : mi < 151) (ht : c.exceptionTable.toList = tableOf (mH mi)) (hlk : meth.locks = false) : Fin3 mi Q n0 p l e (mRm mi) s m args below meth c β D dA ad0 (vx_MQ below (CQ mi n0 β D dA ad0 Q) (CX mi n0 β D dA ad0 Q) args s (mC mi) (mS mi) (fun q : Nat => β ≤ q)) := by
  intro en si h ad H locs cells slots pc ls rest hQ hth ha hn hR hsz hrest hc hs
  obtain ⟨ik, is, tx, hen, hsi, hcls, hmH, hv, hik, hdn, d0, d3, dd⟩ := hth
  have hat := at_ok en hen
  simp only [atB, Bool.and_eq_true, decide_eq_true_eq] at hat
  obtain ⟨⟨⟨⟨⟨hat1, hat2⟩, hat3⟩, hat4⟩, -⟩, ⟨⟨z0, z1⟩, z2⟩, z5⟩ := hat
  have hat1' : ∀ w ∈ exW en, (w ∈ tables_1 ∧ (goodWord w = true ∨ isNG w = true)) ∧ vx_ot w = true := fun w hw => by
    have := List.all_eq_true.mp hat1 w hw
    simpa only [Bool.and_eq_true, decide_eq_true_eq, Bool.or_eq_true] using this
  have hlink := lk_bef (args := args) (by omega : mi < 152) (show (lks (mD mi)).contains (ik, 5, 100 + en, 0) = true by simpa using hik) (Nat.le_of_ble_eq_true rfl) hts
  simp only [lkw] at hlink
  rw [if_neg (by omega), show 100 + en - 100 = en by omega, hdn, hcls] at hlink
  have hini : (Cond.initialized (exN.getD en "")).before args s = true := hts _ (xu_t hat3 hat4)
  have hstr := hsw.2.2.2.1 si _ hsi
  rw [hcls] at hstr
  have hat5 : ∀ w ∈ exW en, w.before args s = true := fun w hw => by
    obtain ⟨⟨h1, h2⟩, h3⟩ := hat1' w hw
    rcases h2 with h2 | h2
    · exact hts _ (xu_t h1 h2)
    · have hng := hsw.2.2.2.2.2.2.1 w (List.mem_filter.mpr ⟨h1, h2⟩)
      exact va_Nw.use (by cases w <;> first | rfl | (simp [isNG] at h2)) hng
  have hgood : ∀ w ∈ Cond.classLink "Plotwise" ik (exN.getD en "") :: Cond.initialized (exN.getD en "") :: exW en, vx_ot w = true := fun w hw => by
    rcases List.mem_cons.mp hw with rfl | hw
    · rfl
    · rcases List.mem_cons.mp hw with rfl | hw
      · rfl
      · exact (hat1' w hw).2
  have hown' : s.vm.findClass "Plotwise" = some m.cls := by rw [← hcls]; exact hown
  have hend : ∀ (pc' : Nat), decode (mB mi) pc' = .ok (.athrow, 1) → ∀ (q : Nat) (H1 : Heap) (ce : Cell), H1[q]? = some ce → ce.vm = .none → s.vm.findClass (exN.getD en "") = some ce.cls → H.size ≤ H1.size → (∀ a : Nat, a < H.size → H1[a]? = H[a]?) → W p l e (mRm mi) s m args below meth c H1 locs (cells + 1) (slots + 6) (vx_MQ below (CQ mi n0 β D dA ad0 Q) (CX mi n0 β D dA ad0 Q) args s (mC mi) (mS mi) (fun q : Nat => β ≤ q)) (F0 m pc' ls (.ref q :: rest)) := by
    intro pc' d9 q H1 ce h1 h2 h3 h4 h5
    refine vx_athrow hx hb d9 ?_
    have hS1 : va_S (fun q : Nat => β ≤ q) s.heap H1 locs := ⟨Nat.le_trans hR.2.2.1 h4, fun q h6 h7 => (h5 q (Nat.lt_of_lt_of_le h6 hR.2.2.1)).trans (hR.2.2.2.1 q h6 h7), hR.2.2.2.2⟩
    refine vx_out (E := exN.getD en "") (fun x hx => ?_) hlk h1 h2 h3 (fun t ht2 hW => ⟨⟨en, h, ad, rfl, hQ, ha, hn, by rw [ht2]; exact hR.1.kept (fun k q hk => h5 q.1 (hR.1 k q hk).lt), hR.2.1⟩, hS1.F ht2⟩) hR.2.2.2.2 hc hs
    rw [ht, hmH] at hx
    cases hx
  have hfr : ["java/lang/RuntimeException", "java/lang/Exception"].length + 3 < (mRm mi).frames := by
    show 2 + 3 < mV mi
    omega
  have hlo : (rest.map fun v => v.category).sum + (13 * (["java/lang/RuntimeException", "java/lang/Exception"].length + 1) + 43) ≤ (mRm mi).locals := by
    show (rest.map fun v => v.category).sum + (13 * (2 + 1) + 43) ≤ 64 * mV mi
    omega
  rcases dd with ⟨d4, d6, d9⟩ | ⟨d4, d7, d10⟩
  · exact vn_throw hx hb hst z0 z1 z2 z5 hown' hat2 (by decide) hlink hini hstr hat5 hgood hsw.2.2.2.2.1 hsw.2.2.2.2.2.1 hR.2.2 (hsz.trans hml.symm) d0 d3 d4 d6 hfr hlo hc hs (hend _ d9)
  · exact vn_throwW hx hb hst z0 z1 z2 z5 hown' hat2 (by decide) hlink hini hstr hat5 hgood hsw.2.2.2.2.1 hsw.2.2.2.2.2.1 hR.2.2 (hsz.trans hml.symm) d0 d3 d4 d7 hfr hlo hc hs (hend _ d10)
theorem plain_ok {mi : Nat} (h : mi < 151) : plainName (mY mi).cls = true := by
  have h1 := (yw mi h).1
  simp only [yb, Bool.and_eq_true] at h1
  exact h1.1.1.1.1.1.1
/-- a method without handlers -/
theorem call_of (hm : mi < 151) (hH : mH mi = []) (hlen : Nat.ble (lg_sl as).length (mL mi) = true) (k : AW (X.1, h.length) mi 0 (lv_args 0 as) [] h (mC mi) (mS mi) Q) : Call X mi as h Q := by
  intro l β D dA ad sa hst
  refine vx_ofW (cc := mB mi) (maxL := mL mi) (ret := mR mi) (plain_ok hm) (by rw [mW_code hH]) ?_
  intro p e s m args below meth c s₁ B hml ht hv
  obtain ⟨rfl, hsw, hβ, hP, hD⟩ := hv
  have hts0 := atoms_spec (ws := mW mi :: XU) B.pre
  have hts : ∀ w ∈ XU, w.before _ s = true := fun w hw => hts0 w (List.mem_cons_of_mem _ hw)
  have htab : c.exceptionTable.toList = tableOf (mH mi) := by
    rw [hH]
    cases hc : c.exceptionTable.toList with
    | nil => rfl
    | cons x xs => exact absurd (ht x (by rw [hc]; exact List.mem_cons_self)) (fun z => z)
  have hle : (lg_sl (as.map (tv ad))).length ≤ mL mi := by rw [lg_sl_tv]; exact Nat.le_of_ble_eq_true hlen
  have hl := lv_entry (as.map (tv ad)) (n := mL mi) hle
  rw [lv_args_tv] at hl
  rw [lg_entry_eq]
  have C : Cx (X.1, h.length) mi Q h.length p l e (mRm mi) s m (as.map (tv ad)).toArray below meth c β D dA ad sa (vx_MQ below (CQ mi h.length β D dA ad Q) (CX mi h.length β D dA ad Q) (as.map (tv ad)).toArray s (mC mi) (mS mi) (fun q : Nat => β ≤ q)) :=
    ⟨B.exec, B.bytes, hml, findClass_of_methodNamed B.named, hts, hst, hsw, hβ, fun z => (name_of_methodNamed B.named B.method).1.trans z, ⟨Nat.le_refl _, Nat.le_refl _⟩, htab, fin1 B.exec B.bytes B.returns B.notSynchronized, fin2 htab B.notSynchronized, fin3 B.exec B.bytes hml (findClass_of_methodNamed B.named) hts hst hsw hm htab B.notSynchronized, rfl⟩
  exact k h.length p l e (mRm mi) s m _ below meth c β D dA ad sa _ C ad s.heap [] 0 0 _ (adOk.rf _ _ _) (Nat.le_refl _) ⟨hP, hD, va_S.rf⟩ hl (Nat.le_of_eq (Nat.zero_add _)) (Nat.le_of_eq (Nat.zero_add _))
/-- a method with handlers -/
theorem call_ofH (hm : mi < 151) (hH : ¬ mH mi = []) (hlen : Nat.ble (lg_sl as).length (mL mi) = true) (k : AW (X.1, h.length) mi 0 (lv_args 0 as) [] h (mC mi) (mS mi) Q) : Call X mi as h Q := by
  intro l β D dA ad sa hst
  refine vx_ofWH (cc := mB mi) (maxL := mL mi) (ret := mR mi) (hh := mH mi) (plain_ok hm) (by rw [mW_with hH]) ?_
  intro p e s m args below meth c s₁ B hml hv
  obtain ⟨rfl, hsw, hβ, hP, hD⟩ := hv
  have hts0 := atoms_spec (ws := mW mi :: XU) B.pre
  have hts : ∀ w ∈ XU, w.before _ s = true := fun w hw => hts0 w (List.mem_cons_of_mem _ hw)
  have htab : c.exceptionTable.toList = tableOf (mH mi) := vx_table (x := mY mi) B (by rw [← mW_with hH]; exact hts0 _ List.mem_cons_self)
  have hle : (lg_sl (as.map (tv ad))).length ≤ mL mi := by rw [lg_sl_tv]; exact Nat.le_of_ble_eq_true hlen
  have hl := lv_entry (as.map (tv ad)) (n := mL mi) hle
  rw [lv_args_tv] at hl
  rw [lg_entry_eq]
  have C : Cx (X.1, h.length) mi Q h.length p l e (mRm mi) s m (as.map (tv ad)).toArray below meth c β D dA ad sa (vx_MQ below (CQ mi h.length β D dA ad Q) (CX mi h.length β D dA ad Q) (as.map (tv ad)).toArray s (mC mi) (mS mi) (fun q : Nat => β ≤ q)) :=
    ⟨B.exec, B.bytes, hml, findClass_of_methodNamed B.named, hts, hst, hsw, hβ, fun z => (name_of_methodNamed B.named B.method).1.trans z, ⟨Nat.le_refl _, Nat.le_refl _⟩, htab, fin1 B.exec B.bytes B.returns B.notSynchronized, fin2 htab B.notSynchronized, fin3 B.exec B.bytes hml (findClass_of_methodNamed B.named) hts hst hsw hm htab B.notSynchronized, rfl⟩
  exact k h.length p l e (mRm mi) s m _ below meth c β D dA ad sa _ C ad s.heap [] 0 0 _ (adOk.rf _ _ _) (Nat.le_refl _) ⟨hP, hD, va_S.rf⟩ hl (Nat.le_of_eq (Nat.zero_add _)) (Nat.le_of_eq (Nat.zero_add _))
end ENDS
