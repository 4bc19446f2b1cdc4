/-! a call whose exceptions the method catches: each handler keeps the exception in a local that nobody reads -/
/-- a handler: its exception, its place, the local, the length of the store -/
abbrev hT : Type := Nat × Nat × Nat × Nat
def hB (mi pc : Nat) (z : hT) (x : Nat × Nat × Nat × Nat) : Bool := Nat.ble x.1 pc && Nat.ble (pc + 1) x.2.1 && decide (x.2.2.1 = z.2.1) && !(decide (x.2.2.2 = 0)) && (lks (mD mi)).contains (x.2.2.2, 5, 100 + z.1, 0) && decide (z.1 < 6) && Nat.ble (z.2.2.1 + 1) (mL mi) &&
  ((decide (z.2.2.2 = 2) && decide (decode (mB mi) z.2.1 = .ok (.astore z.2.2.1, 2))) || (decide (z.2.2.2 = 1) && ((decide (z.2.2.1 = 2) && decide (decode (mB mi) z.2.1 = .ok (.astore_n 2, 1))) || (decide (z.2.2.1 = 3) && decide (decode (mB mi) z.2.1 = .ok (.astore_n 3, 1))))))
/-- the handlers that a call at pc has: one or two -/
def hC (mi pc : Nat) (zs : List hT) : Bool := match mH mi, zs with
  | [x], [z] => hB mi pc z x
  | [x, y], [z, w] => hB mi pc z x && hB mi pc w y && decide ((exN.getD w.1 "", exN.getD z.1 "") ∈ NCL)
  | _, _ => false
def HK (X : XS) (mi pc : Nat) (lv : List (Nat × Value)) (rest : List Value) (bc bs : Nat) (zs : List hT) (Q : AO → AH → Prop) (o : AO) (h : AH) : Prop := match o with
  | .inl none => AW X mi (pc + 3) lv rest h bc bs Q
  | .inl (some v) => AW X mi (pc + 3) lv (v :: rest) h bc bs Q
  | .inr en => ∃ z ∈ zs, z.1 = en ∧ AW X mi (z.2.1 + z.2.2.2) (stf 1 z.2.2.1 lv) [] h bc bs Q
section HRUN
variable {X : XS} {mi mj pc : Nat} {lv : List (Nat × Value)} {rest : List Value} {h : AH} {bc bs : Nat} {Q : AO → AH → Prop} {n0 : Nat} {p : Program} {l : Launch} {e : Env} {R : Room} {s : State} {m : MethodId} {args : Array Value} {below : List Frame} {meth : Method} {c : Code} {β : Nat} {D : va_G} {dA : Nat → ClassId} {ad0 sa : Nat → Nat} {Qf : State → Prop}
/-- one handler takes what it is for -/
theorem h_take (C : Cx X mi Q n0 p l e R s m args below meth c β D dA ad0 sa Qf) (hm : mi < 152) {z : hT} {x : Nat × Nat × Nat × Nat} {pre suf : List ExceptionTableEntry} (hB1 : hB mi pc z x = true) (hsp : tableOf (mH mi) = pre ++ ⟨x.1, x.2.1, x.2.2.1, x.2.2.2⟩ :: suf)
    (hpass : ∀ y ∈ pre, covers y pc = false ∨ (y.catchType ≠ 0 ∧ ∃ nm : String, (Cond.classLink (mY mi).cls y.catchType nm).before args s = true ∧ va_Nc (exN.getD z.1 "") nm s)) {ad : Nat → Nat} {H : Heap} {locs : List Loc} {cells slots : Nat} {ls : Array Slot} {st : List Value} {q : Nat} {ce : Cell}
    (ha : adOk mi n0 ad0 ad) (hn : n0 ≤ h.length) (hR : HR D dA β ad h s.heap H locs) (hl : lv_has ls (mL mi) (tl ad lv)) (hc : cells + bc ≤ R.cells) (hs : slots + bs ≤ R.slots) (hce : H[q]? = some ce) (hcv : ce.vm = .none) (hcl : s.vm.findClass (exN.getD z.1 "") = some ce.cls)
    (k : AW X mi (z.2.1 + z.2.2.2) (stf 1 z.2.2.1 lv) [] h bc bs Q) : vx_W p l e R s m args below meth c H locs cells slots Qf (F0 m pc ls st) q := by
  simp only [hB, Bool.and_eq_true, Bool.or_eq_true, decide_eq_true_eq, Bool.not_eq_true', decide_eq_false_iff_not] at hB1
  obtain ⟨⟨⟨⟨⟨⟨⟨b1, b2⟩, b3⟩, b4⟩, b5⟩, b6⟩, b7⟩, b8⟩ := hB1
  have hlink := lk_bef hm b5 (Nat.le_of_ble_eq_true rfl) C.2.2.2.2.1
  simp only [lkw] at hlink
  rw [if_neg (by omega), show 100 + z.1 - 100 = z.1 by omega, dN_ok2 mi hm] at hlink
  have hat := at_ok z.1 b6
  simp only [atB, Bool.and_eq_true, decide_eq_true_eq] at hat
  have hcast : (Cond.castable (exN.getD z.1 "") (exN.getD z.1 "")).before args s = true := va_Nw.use rfl (C.2.2.2.2.2.2.1.2.2.2.2.2.2.1 _ (List.mem_filter.mpr ⟨hat.1.2, rfl⟩))
  refine vx_catch C.2.2.2.1 pre ⟨x.1, x.2.1, x.2.2.1, x.2.2.2⟩ suf (by rw [C.2.2.2.2.2.2.2.2.2.2.1]; exact hsp) hpass (by
      show (decide (x.1 ≤ pc) && decide (pc < x.2.1)) = true
      have c1 := Nat.le_of_ble_eq_true b1
      have c2 := Nat.le_of_ble_eq_true b2
      simp only [Bool.and_eq_true, decide_eq_true_eq]
      omega) b4 hlink hcast hce hcv hcl ?_
  show W p l e R s m args below meth c H locs cells slots Qf (F0 m x.2.2.1 ls [.ref q])
  rw [b3]
  have fin : ∀ ls' : Array Slot, lv_has ls' (mL mi) ((z.2.2.1, Value.ref q) :: (tl ad lv).filter (fun q => !(q.1 == z.2.2.1) && !(q.1 + 1 == z.2.2.1 && q.2.category == 2))) → lv_has ls' (mL mi) (tl ad (stf 1 z.2.2.1 lv)) := by
    intro ls' hl'
    refine ⟨hl'.1, hl'.2.1, fun y hy => ?_⟩
    obtain ⟨w, hw, rfl⟩ := List.mem_map.mp hy
    obtain ⟨g1, g2⟩ := stf_in hw
    refine hl'.2.2 _ (List.mem_cons_of_mem _ (List.mem_filter.mpr ⟨List.mem_map.mpr ⟨w, g1, rfl⟩, ?_⟩))
    simp only [klp, Bool.or_eq_false_iff, Bool.and_eq_false_iff] at g2
    obtain ⟨⟨h1, h2⟩, -⟩ := g2
    have e1 : ¬ w.1 = z.2.2.1 := Nat.ne_of_beq_eq_false h1
    simp only [Bool.and_eq_true, Bool.not_eq_true', beq_eq_false_iff_ne, ne_eq, Bool.and_eq_false_iff]
    refine ⟨e1, ?_⟩
    rcases h2 with h2 | h2
    · exact Or.inl (Nat.ne_of_beq_eq_false h2)
    · exact Or.inr (by rw [tv_cat]; exact Nat.ne_of_beq_eq_false h2)
  have kk := fun ls' hl' => k n0 p l e R s m args below meth c β D dA ad0 sa Qf C ad H locs cells slots ls' ha hn hR (fin ls' hl') hc hs
  rcases b8 with ⟨d2, d3⟩ | ⟨d2, ⟨d3, d4⟩ | ⟨d3, d4⟩⟩
  · rw [d2] at kk
    exact lv_astore C.1 C.2.1 d3 hl (Nat.le_of_ble_eq_true b7) rfl kk
  · rw [d2] at kk
    exact lv_astore_n C.1 C.2.1 d4 d3.symm hl (Nat.le_of_ble_eq_true b7) rfl kk
  · rw [d2] at kk
    exact lv_astore_n C.1 C.2.1 d4 d3.symm hl (Nat.le_of_ble_eq_true b7) rfl kk
theorem run_goH {zs : List hT} (hz : hC mi pc zs = true) (hm : mi < 152) (C : Cx X mi Q n0 p l e R s m args below meth c β D dA ad0 sa Qf) {ad : Nat → Nat} {H : Heap} {locs : List Loc} {cells slots : Nat} {ls : Array Slot} {st0 : List Value} {a : Array Value} (ha : adOk mi n0 ad0 ad) (hn : n0 ≤ h.length) (hR : HR D dA β ad h s.heap H locs) (hl : lv_has ls (mL mi) (tl ad lv)) (hc : cells + bc ≤ R.cells) (hs : slots + bs ≤ R.slots) (hb : mC mj ≤ bc ∧ mS mj ≤ bs) (hA : mA mj = 0)
    (hr : vx_Run p l e R s m args below meth c H locs cells slots (mC mj) (mS mj) (F0 m pc ls st0) (rest.map (tv ad)) (CQ mj h.length β D dA ad (HK X mi pc lv rest (bc - mC mj) (bs - mS mj) zs Q) a) (CX mj h.length β D dA ad (HK X mi pc lv rest (bc - mC mj) (bs - mS mj) zs Q)) (fun q : Nat => β ≤ q)) :
    W p l e R s m args below meth c H locs cells slots Qf (F0 m pc ls st0) := by
  intro T hT Y
  rcases hr T hT Y with ⟨v, st₀, t, T', L, h0, Y', hL, e1, e2, ⟨⟨v', h', ad', hv, hQ, hadk, hlen', hP', hD'⟩, hF⟩, st⟩ | ⟨q, st₀, t, T', L, E, ce, h0, Y', hL, e1, e2, ⟨⟨en, h', ad', hE, hQ, hadk, hlen', hP', hD'⟩, hF⟩, hce, hcv, hcl, st⟩
  · obtain ⟨k1, k2, k3⟩ := vx_keep h0 e1 hR.2.2 (fun _ _ z => z) (fun _ z => z) hL hF
    have e9 := hadk.1 hA
    subst e9
    have hR' : HR D dA β ad' h' s.heap T'.heap (locs ++ L) := ⟨by rw [e1]; exact hP', hD', k3⟩
    cases v' with
    | none =>
      cases hv
      have k : AW X mi (pc + 3) lv rest h' (bc - mC mj) (bs - mS mj) Q := hQ
      obtain ⟨t2, a1, b1⟩ := k n0 p l e R s m args below meth c β D dA ad0 sa Qf C ad' T'.heap (locs ++ L) (cells + mC mj) (slots + mS mj) ls ha (Nat.le_trans hn hlen') hR' hl (by omega) (by omega) T' rfl Y'
      exact ⟨t2, st t2 a1, b1⟩
    | some v1 =>
      cases hv
      have k : AW X mi (pc + 3) lv (v1 :: rest) h' (bc - mC mj) (bs - mS mj) Q := hQ
      obtain ⟨t2, a1, b1⟩ := k n0 p l e R s m args below meth c β D dA ad0 sa Qf C ad' T'.heap (locs ++ L) (cells + mC mj) (slots + mS mj) ls ha (Nat.le_trans hn hlen') hR' hl (by omega) (by omega) T' rfl Y'
      exact ⟨t2, st t2 a1, b1⟩
  · obtain ⟨k1, k2, k3⟩ := vx_keep h0 e1 hR.2.2 (fun _ _ z => z) (fun _ z => z) hL hF
    have e9 := hadk.1 hA
    subst e9
    have hR' : HR D dA β ad' h' s.heap T'.heap (locs ++ L) := ⟨by rw [e1]; exact hP', hD', k3⟩
    obtain ⟨z, hzs, rfl, k⟩ : ∃ z ∈ zs, z.1 = en ∧ AW X mi (z.2.1 + z.2.2.2) (stf 1 z.2.2.1 lv) [] h' (bc - mC mj) (bs - mS mj) Q := hQ
    have go : vx_W p l e R s m args below meth c T'.heap (locs ++ L) (cells + mC mj) (slots + mS mj) Qf (F0 m pc ls (rest.map (tv ad'))) q := by
      have hce' : T'.heap[q]? = some ce := by rw [e1]; exact hce
      have hcl' : s.vm.findClass (exN.getD z.1 "") = some ce.cls := by rw [← hE]; exact hcl
      unfold hC at hz
      split at hz
      · rename_i x z1 hmH
        rw [List.mem_singleton] at hzs
        subst hzs
        exact h_take C hm (pre := []) (suf := []) hz (by rw [hmH]; rfl) (fun y hy => nomatch hy) ha (Nat.le_trans hn hlen') hR' hl (by omega) (by omega) hce' hcv hcl' k
      · rename_i x y z1 w1 hmH
        simp only [Bool.and_eq_true, decide_eq_true_eq] at hz
        obtain ⟨⟨hz1, hz2⟩, hz3⟩ := hz
        rcases List.mem_cons.mp hzs with rfl | hzs
        · exact h_take C hm (pre := []) (suf := [⟨y.1, y.2.1, y.2.2.1, y.2.2.2⟩]) hz1 (by rw [hmH]; rfl) (fun y hy => nomatch hy) ha (Nat.le_trans hn hlen') hR' hl (by omega) (by omega) hce' hcv hcl' k
        · rw [List.mem_singleton] at hzs
          subst hzs
          refine h_take C hm (pre := [⟨x.1, x.2.1, x.2.2.1, x.2.2.2⟩]) (suf := []) hz2 (by rw [hmH]; rfl) (fun y hy => ?_) ha (Nat.le_trans hn hlen') hR' hl (by omega) (by omega) hce' hcv hcl' k
          rw [List.mem_singleton] at hy
          subst hy
          simp only [hB, Bool.and_eq_true, Bool.or_eq_true, decide_eq_true_eq, Bool.not_eq_true', decide_eq_false_iff_not] at hz1
          obtain ⟨⟨⟨⟨⟨⟨⟨b1, b2⟩, b3⟩, b4⟩, b5⟩, b6⟩, b7⟩, b8⟩ := hz1
          have hlink := lk_bef hm b5 (Nat.le_of_ble_eq_true rfl) C.2.2.2.2.1
          simp only [lkw] at hlink
          rw [if_neg (by omega), show 100 + z1.1 - 100 = z1.1 by omega, dN_ok2 mi hm] at hlink
          exact Or.inr ⟨b4, _, hlink, C.2.2.2.2.2.2.1.2.2.2.2.2.2.2.1 _ hz3⟩
      · cases hz
    obtain ⟨t2, a1, b1⟩ := go T' rfl Y'
    exact ⟨t2, st.trans a1, b1⟩
end HRUN
theorem a_callVH {X : XS} {mi mj pc i n : Nat} {lv : List (Nat × Value)} {rest : List Value} {h : AH} {bc bs : Nat} {Q : AO → AH → Prop} {as : List Value} {o : Nat} {fs : List Value} {zs : List hT} (q : (cfB mi pc i mj 1 4 n && hC mi pc zs) = true) (hn' : as.length = n) (ho : h[o]? = some (.inl (mO mj, fs))) (hw : Nat.ble (rest.map fun v => v.category).sum 8 = true) (hb : Nat.ble (mC mj) bc = true ∧ Nat.ble (mS mj) bs = true)
    (hA : mA mj = 0) (k : Call X mj (.ref o :: as) h (HK X mi pc lv rest (bc - mC mj) (bs - mS mj) zs Q)) : AW X mi pc lv (as.reverse ++ .ref o :: rest) h bc bs Q := by
  intro n0 p l e R s m args below meth c β D dA ad0 sa Qf C ad H locs cells slots ls ha hn hR hl hc hs
  rw [Bool.and_eq_true] at q
  obtain ⟨q, hz⟩ := q
  simp only [cfB, Bool.and_eq_true, decide_eq_true_eq] at q
  obtain ⟨⟨⟨⟨⟨⟨⟨⟨hm, hj⟩, d⟩, hlk⟩, hkd⟩, hnn⟩, hv⟩, hH⟩, hne⟩ := q
  have hts := C.2.2.2.2.1
  obtain ⟨-, hy2, hy3, hy4⟩ := yw mj hj
  have hy5 : Cond.instanceMethod (mY mj) ∈ XU ∧ Cond.selects (mY mj).cls (mY mj) (mY mj) ∈ XU ∧ (kC (mO mj)).1 = (mY mj).cls ∧ mO mj < 8 := by
    unfold yw_k at hy4
    rw [hkd] at hy4
    exact hy4
  obtain ⟨hi1, hi2, hi3, hi4⟩ := hy5
  have hrm := room_ok (R := R) hj hv C.2.2.2.2.2.2.2.2.2.1
  have hM := k l β D dA ad sa C.2.2.2.2.2.1
  have hstk : List.map (tv ad) (as.reverse ++ .ref o :: rest) = (as.map (tv ad)).reverse ++ .ref (ad o) :: rest.map (tv ad) := by rw [List.map_append, List.map_reverse, List.map_cons]; rfl
  rw [hstk]
  refine run_goH (lv := lv) (rest := rest) (bc := bc) (bs := bs) hz hm C ha hn hR hl hc hs ⟨Nat.le_of_ble_eq_true hb.1, Nat.le_of_ble_eq_true hb.2⟩ hA (a := (Value.ref (ad o) :: as.map (tv ad)).toArray) ?_
  have hrv := va_recv C.2.2.2.2.2.2.1.1 hR.1 (kok (mO mj) hi4).1 (cW_get ho)
  rw [hi3] at hrv
  have hp : PreV s H (mY mj).cls (ad o) (va_Pc ((Value.ref o :: as).map (tv ad)) (CP X β D dA ad sa h)) (as.map (tv ad)) := ⟨CP_blind, hrv, fun U hU hW => ⟨rfl, CP_at C ha hR U hU hW⟩⟩
  have hrest : ((rest.map (tv ad)).map fun v => v.category).sum ≤ 8 := by
    rw [List.map_map]
    have := Nat.le_of_ble_eq_true hw
    simpa [Function.comp_def, tv_cat] using this
  have hf : cells + mC mj ≤ R.cells ∧ slots + mS mj ≤ R.slots := ⟨by have := Nat.le_of_ble_eq_true hb.1; omega, by have := Nat.le_of_ble_eq_true hb.2; omega⟩
  have hlink := lk_bef hm hlk (Nat.le_of_ble_eq_true rfl) hts
  simp only [lkw] at hlink
  rw [dN_ok2 mi hm] at hlink
  exact vx_runV ⟨C.1, C.2.1, C.2.2.1, C.2.2.2.1, hts⟩ hM ⟨callB_of n hts (mW_good hj) (by rw [mW_code hH]) rfl rfl (hts _ hy3) hlink (desc_ok hj hnn) hrm, hts _ hi1, hts _ hi2⟩ hp rfl (by rw [List.length_map]; exact hn') hl.1 rfl (lv_room hrest) d hf
/-- a static call of a method with handlers of its own -/
def cfW (mi pc i mj n : Nat) : Bool := decide (mi < 152) && decide (mj < 151) && decide (decode (mB mi) pc = .ok (.invokestatic i, 3)) && (lks (mD mi)).contains (i, 4, mj, 0) && decide (mK mj = 0) && decide (mN mj = n) && decide (mV mj + 1 ≤ mV mi) && !(decide (mH mj = []))
theorem a_callSW {X : XS} {mi mj pc i n : Nat} {lv : List (Nat × Value)} {rest : List Value} {h : AH} {bc bs : Nat} {Q : AO → AH → Prop} {as : List Value} (q : cfW mi pc i mj n = true) (hn' : as.length = n) (hw : Nat.ble (rest.map fun v => v.category).sum 8 = true) (hb : Nat.ble (mC mj) bc = true ∧ Nat.ble (mS mj) bs = true) (hA : mA mj = 0)
    (k : Call X mj as h (CK X mi pc lv rest (bc - mC mj) (bs - mS mj) Q)) : AW X mi pc lv (as.reverse ++ rest) h bc bs Q := by
  intro n0 p l e R s m args below meth c β D dA ad0 sa Qf C ad H locs cells slots ls ha hn hR hl hc hs
  simp only [cfW, Bool.and_eq_true, decide_eq_true_eq, Bool.not_eq_true', decide_eq_false_iff_not] at q
  obtain ⟨⟨⟨⟨⟨⟨⟨hm, hj⟩, d⟩, hlk⟩, hkd⟩, hnn⟩, hv⟩, hH⟩ := q
  have hts := C.2.2.2.2.1
  obtain ⟨-, hy2, hy3, hy4⟩ := yw mj hj
  have hstt : (Cond.static (mY mj)).before args s = true := by
    unfold yw_k at hy4
    rw [hkd] at hy4
    exact hts _ hy4
  have hrm := room_ok (R := R) hj hv C.2.2.2.2.2.2.2.2.2.1
  have hM := k l β D dA ad sa C.2.2.2.2.2.1
  have hstk : List.map (tv ad) (as.reverse ++ rest) = (as.map (tv ad)).reverse ++ rest.map (tv ad) := by rw [List.map_append, List.map_reverse]
  rw [hstk]
  refine run_go (lv := lv) (rest := rest) (bc := bc) (bs := bs) C ha hn hR hl hc hs ⟨Nat.le_of_ble_eq_true hb.1, Nat.le_of_ble_eq_true hb.2⟩ (Or.inl hA) (a := (as.map (tv ad)).toArray) ?_
  have hp : PreS s H (va_Pc (as.map (tv ad)) (CP X β D dA ad sa h)) (as.map (tv ad)) := ⟨CP_blind, fun U hU hW => ⟨rfl, CP_at C ha hR U hU hW⟩⟩
  have hrest : ((rest.map (tv ad)).map fun v => v.category).sum ≤ 8 := by
    rw [List.map_map]
    have := Nat.le_of_ble_eq_true hw
    simpa [Function.comp_def, tv_cat] using this
  have hf : cells + mC mj ≤ R.cells ∧ slots + mS mj ≤ R.slots := ⟨by have := Nat.le_of_ble_eq_true hb.1; omega, by have := Nat.le_of_ble_eq_true hb.2; omega⟩
  have hlink := lk_bef hm hlk (Nat.le_of_ble_eq_true rfl) hts
  simp only [lkw] at hlink
  rw [dN_ok2 mi hm] at hlink
  have hcw : Cond.codeWith (mY mj) (mB mj) (mL mj) (mR mj) (mH mj) ∈ mW mj :: XU := by rw [← mW_with hH]; exact List.mem_cons_self
  have hdk := desc_ok hj hnn
  exact vx_runSX ⟨C.1, C.2.1, C.2.2.1, C.2.2.2.1, hts⟩ hM ⟨⟨rfl, rfl, hrm.1, hrm.2, pay_in hts (mW_good hj), hcw⟩, by rw [← mW_with hH]; exact hts _ hy2, hts _ hy3, ⟨hdk.1, hdk.2.1⟩, fun sig hsg => by
    have h2 := hdk.2.2
    rw [hsg] at h2
    exact (Option.some.inj h2).symm, hlink, hstt⟩ hp rfl (by rw [List.length_map]; exact hn') hl.1 rfl (lv_room hrest) d hf
