/-! the law's entry -/
def nwL : List Cond := [.arrayOf (.static "Plotwise" "MARKS" "[C") .char,
  .eq (.length (.static "Plotwise" "MARKS" "[C")) (.int 3),
  .eq (.elem (.static "Plotwise" "MARKS" "[C") (.int 0)) (.int 98),
  .eq (.elem (.static "Plotwise" "MARKS" "[C") (.int 1)) (.int 108),
  .eq (.elem (.static "Plotwise" "MARKS" "[C") (.int 2)) (.int 112),
  .arrayOf (.static "Plotwise$Costs" "FIRST_WEIGHTS" "[I") .int,
  .eq (.length (.static "Plotwise$Costs" "FIRST_WEIGHTS" "[I")) (.int 8),
  .eq (.elem (.static "Plotwise$Costs" "FIRST_WEIGHTS" "[I") (.int 0)) (.int 3),
  .eq (.elem (.static "Plotwise$Costs" "FIRST_WEIGHTS" "[I") (.int 1)) (.int 4),
  .eq (.elem (.static "Plotwise$Costs" "FIRST_WEIGHTS" "[I") (.int 2)) (.int 2),
  .eq (.elem (.static "Plotwise$Costs" "FIRST_WEIGHTS" "[I") (.int 3)) (.int 5),
  .eq (.elem (.static "Plotwise$Costs" "FIRST_WEIGHTS" "[I") (.int 4)) (.int 3),
  .eq (.elem (.static "Plotwise$Costs" "FIRST_WEIGHTS" "[I") (.int 5)) (.int 2),
  .eq (.elem (.static "Plotwise$Costs" "FIRST_WEIGHTS" "[I") (.int 6)) (.int 6),
  .eq (.elem (.static "Plotwise$Costs" "FIRST_WEIGHTS" "[I") (.int 7)) (.int 1),
  .arrayOf (.static "Plotwise$Costs" "CHANNEL_COSTS" "[I") .int,
  .eq (.length (.static "Plotwise$Costs" "CHANNEL_COSTS" "[I")) (.int 12),
  .eq (.elem (.static "Plotwise$Costs" "CHANNEL_COSTS" "[I") (.int 0)) (.int 0),
  .eq (.elem (.static "Plotwise$Costs" "CHANNEL_COSTS" "[I") (.int 1)) (.int 2),
  .eq (.elem (.static "Plotwise$Costs" "CHANNEL_COSTS" "[I") (.int 2)) (.int 6),
  .eq (.elem (.static "Plotwise$Costs" "CHANNEL_COSTS" "[I") (.int 3)) (.int 0),
  .eq (.elem (.static "Plotwise$Costs" "CHANNEL_COSTS" "[I") (.int 4)) (.int 1),
  .eq (.elem (.static "Plotwise$Costs" "CHANNEL_COSTS" "[I") (.int 5)) (.int 2),
  .eq (.elem (.static "Plotwise$Costs" "CHANNEL_COSTS" "[I") (.int 6)) (.int 2),
  .eq (.elem (.static "Plotwise$Costs" "CHANNEL_COSTS" "[I") (.int 7)) (.int 0),
  .eq (.elem (.static "Plotwise$Costs" "CHANNEL_COSTS" "[I") (.int 8)) (.int 1),
  .eq (.elem (.static "Plotwise$Costs" "CHANNEL_COSTS" "[I") (.int 9)) (.int 0),
  .eq (.elem (.static "Plotwise$Costs" "CHANNEL_COSTS" "[I") (.int 10)) (.int 4),
  .eq (.elem (.static "Plotwise$Costs" "CHANNEL_COSTS" "[I") (.int 11)) (.int 3),
  .exactly (.static "Plotwise$Costs" "FIRST_WEIGHTS" "[I") "[I",
  .exactly (.string "Plotwise" 74) "java/lang/String",
  .exactly (.string "Plotwise" 85) "java/lang/String",
  .exactly (.string "Plotwise" 100) "java/lang/String",
  .exactly (.string "Plotwise" 110) "java/lang/String",
  .exactly (.string "Plotwise" 112) "java/lang/String",
  .exactly (.string "Plotwise" 327) "java/lang/String",
  .exactly (.string "Plotwise" 138) "java/lang/String",
  .exactly (.string "Plotwise" 141) "java/lang/String",
  .exactly (.string "Plotwise" 146) "java/lang/String",
  .exactly (.string "Plotwise" 155) "java/lang/String",
  .exactly (.string "Plotwise" 165) "java/lang/String",
  .exactly (.string "Plotwise" 332) "java/lang/String",
  .exactly (.string "Plotwise" 178) "java/lang/String",
  .exactly (.string "Plotwise" 183) "java/lang/String",
  .exactly (.string "Plotwise" 188) "java/lang/String",
  .exactly (.string "Plotwise" 190) "java/lang/String",
  .exactly (.string "Plotwise" 334) "java/lang/String",
  .exactly (.string "Plotwise" 225) "java/lang/String",
  .not (.castable "java/lang/IllegalStateException" "java/lang/IllegalArgumentException"),
  .not (.castable "java/lang/IllegalArgumentException" "java/lang/IndexOutOfBoundsException"),
  .not (.castable "java/lang/ArithmeticException" "java/lang/IndexOutOfBoundsException"),
  .not (.castable "java/lang/IllegalStateException" "java/lang/IndexOutOfBoundsException"),
  .not (.castable "java/util/NoSuchElementException" "java/lang/UnsupportedOperationException"),
  .not (.castable "java/lang/IndexOutOfBoundsException" "java/util/NoSuchElementException"),
  .isRef (.static Bundle.tN "UNASSIGNED_STACK" Bundle.steD),
  .isRef (.static Bundle.tN "SUPPRESSED_SENTINEL" Bundle.listD)]
set_option maxRecDepth 100000 in
theorem nw_in : ∀ w ∈ nwL, w ∈ flatC (Cond.and given_1 narrow_1) := by decide +kernel
theorem sw_arr {s : State} {args : Array Value} (hts : ∀ w ∈ XU, w.before args s = true) : ∃ dA : Nat → ClassId, ∀ (k : Nat) (q : ClassId × FieldType), (tyl dA)[k]? = some q → ArrOfT s q.1 q.2 ∧ va_RA s q.1 q.2 := by
  have key : ∀ a, a < 3 → ∃ cA : ClassId, ArrOfT s cA (aty a) ∧ va_RA s cA (aty a) := by
    intro a ha
    obtain ⟨cA, kA, comp, h1, h2, h3⟩ := Cond.arrayClass_spec (hts _ (ac_ok a ha))
    refine ⟨cA, fun n z => ⟨fun k h => (by cases h), kA, h2, comp, h3⟩, ?_⟩
    rcases (show a = 0 ∨ a = 1 ∨ a = 2 by omega) with rfl | rfl | rfl <;> exact h1
  refine ⟨fun a => if h : a < 3 then Classical.choose (key a h) else 0, fun k q hq => ?_⟩
  by_cases h5 : k < 3
  · rw [tyl_at _ k h5] at hq
    have e := Option.some.inj hq
    rw [← e]
    show ArrOfT s (if h : k < 3 then Classical.choose (key k h) else 0) (aty k) ∧ va_RA s (if h : k < 3 then Classical.choose (key k h) else 0) (aty k)
    rw [dif_pos h5]
    exact Classical.choose_spec (key k h5)
  · rw [List.getElem?_eq_none (by show 3 ≤ k; omega)] at hq
    cases hq
theorem sw_obj {s : State} {args : Array Value} (hts : ∀ w ∈ XU, w.before args s = true) : ∃ (dC : Nat → ClassId) (dI : Nat → Nat → Nat), ∀ (c : Nat) (q : vw_C), kcl[c]? = some q → u_Kn s q.1 q.2.1 q.2.2 (dC c) (dI c) := by
  have key : ∀ a, a < 8 → ∃ (cC : ClassId) (iS : Nat → Nat), u_Kn s (kC a).1 (kC a).2.1 (kC a).2.2 cC iS := fun a ha => u_known hts (kok a ha).2.1 (hts _ (kok a ha).2.2.2.2.1)
  refine ⟨fun a => if h : a < 8 then Classical.choose (key a h) else 0, fun a => if h : a < 8 then Classical.choose (Classical.choose_spec (key a h)) else fun _ => 0, fun c q hq => ?_⟩
  by_cases h9 : c < 8
  · rw [(kok c h9).1] at hq
    have e := Option.some.inj hq
    rw [← e]
    show u_Kn s (kC c).1 (kC c).2.1 (kC c).2.2 (if h : c < 8 then Classical.choose (key c h) else 0) (if h : c < 8 then Classical.choose (Classical.choose_spec (key c h)) else fun _ => 0)
    rw [dif_pos h9, dif_pos h9]
    exact Classical.choose_spec (Classical.choose_spec (key c h9))
  · rw [List.getElem?_eq_none (by show 8 ≤ c; omega)] at hq
    cases hq
theorem len_exact {s : State} {args : Array Value} {t : Term} {N : Nat} (hN : N < 2 ^ 31) (h : (Term.length t).eval args s none [] s = some (.int (Int32.ofNat N))) : ∃ a cell, t.eval args s none [] s = some (.ref a) ∧ s.heap[a]? = some cell ∧ cell.slots.size = N := by
  obtain ⟨a, cell, h1, h2, h3⟩ := Term.length_spec h
  have hsz : cell.slots.size < 2 ^ 31 := by
    simp only [Term.eval, h1, h2, Option.bind_eq_bind, Option.bind_some] at h
    by_cases hlt : cell.slots.size < 2147483648
    · exact hlt
    · simp [hlt] at h
  refine ⟨a, cell, h1, (State.arrayAt?_spec h2).1, ?_⟩
  have e : nI N = nI cell.slots.size := Value.int.inj h3
  exact ((nI_eq hN hsz).mp e).symm
theorem sw_t0 {s : State} {args : Array Value} (hs : ∀ w ∈ flatC (Cond.and given_1 narrow_1), w.before args s = true) : ∃ t : Nat, (Term.static "Plotwise" "MARKS" "[C").eval args s none [] s = some (.ref t) ∧ va_T .char t 3 (fun j => .int (ro_m j)) (fun q : Nat => s.heap.size ≤ q) s s.heap := by
  refine va_Tof (by decide) (hs _ (nw_in _ (List.mem_of_getElem? (i := 0) rfl))) (va_eqt (z := Int32.ofNat 3) (hs _ (nw_in _ (List.mem_of_getElem? (i := 1) rfl)))) ?_ (fun a ha => Nat.not_le.mpr ha)
  intro j hj
  match j, hj with
    | 0, _ => exact va_eqt (hs _ (nw_in _ (List.mem_of_getElem? (i := 2) rfl)))
    | 1, _ => exact va_eqt (hs _ (nw_in _ (List.mem_of_getElem? (i := 3) rfl)))
    | 2, _ => exact va_eqt (hs _ (nw_in _ (List.mem_of_getElem? (i := 4) rfl)))
    | j + 3, hj => omega
theorem sw_t1 {s : State} {args : Array Value} (hs : ∀ w ∈ flatC (Cond.and given_1 narrow_1), w.before args s = true) : ∃ t : Nat, (Term.static "Plotwise$Costs" "FIRST_WEIGHTS" "[I").eval args s none [] s = some (.ref t) ∧ va_T .int t 8 (fun j => .int (ro_w j)) (fun q : Nat => s.heap.size ≤ q) s s.heap := by
  refine va_Tof (by decide) (hs _ (nw_in _ (List.mem_of_getElem? (i := 5) rfl))) (va_eqt (z := Int32.ofNat 8) (hs _ (nw_in _ (List.mem_of_getElem? (i := 6) rfl)))) ?_ (fun a ha => Nat.not_le.mpr ha)
  intro j hj
  match j, hj with
    | 0, _ => exact va_eqt (hs _ (nw_in _ (List.mem_of_getElem? (i := 7) rfl)))
    | 1, _ => exact va_eqt (hs _ (nw_in _ (List.mem_of_getElem? (i := 8) rfl)))
    | 2, _ => exact va_eqt (hs _ (nw_in _ (List.mem_of_getElem? (i := 9) rfl)))
    | 3, _ => exact va_eqt (hs _ (nw_in _ (List.mem_of_getElem? (i := 10) rfl)))
    | 4, _ => exact va_eqt (hs _ (nw_in _ (List.mem_of_getElem? (i := 11) rfl)))
    | 5, _ => exact va_eqt (hs _ (nw_in _ (List.mem_of_getElem? (i := 12) rfl)))
    | 6, _ => exact va_eqt (hs _ (nw_in _ (List.mem_of_getElem? (i := 13) rfl)))
    | 7, _ => exact va_eqt (hs _ (nw_in _ (List.mem_of_getElem? (i := 14) rfl)))
    | j + 8, hj => omega
theorem sw_t2 {s : State} {args : Array Value} (hs : ∀ w ∈ flatC (Cond.and given_1 narrow_1), w.before args s = true) : ∃ t : Nat, (Term.static "Plotwise$Costs" "CHANNEL_COSTS" "[I").eval args s none [] s = some (.ref t) ∧ va_T .int t 12 (fun j => .int (ro_c j)) (fun q : Nat => s.heap.size ≤ q) s s.heap := by
  refine va_Tof (by decide) (hs _ (nw_in _ (List.mem_of_getElem? (i := 15) rfl))) (va_eqt (z := Int32.ofNat 12) (hs _ (nw_in _ (List.mem_of_getElem? (i := 16) rfl)))) ?_ (fun a ha => Nat.not_le.mpr ha)
  intro j hj
  match j, hj with
    | 0, _ => exact va_eqt (hs _ (nw_in _ (List.mem_of_getElem? (i := 17) rfl)))
    | 1, _ => exact va_eqt (hs _ (nw_in _ (List.mem_of_getElem? (i := 18) rfl)))
    | 2, _ => exact va_eqt (hs _ (nw_in _ (List.mem_of_getElem? (i := 19) rfl)))
    | 3, _ => exact va_eqt (hs _ (nw_in _ (List.mem_of_getElem? (i := 20) rfl)))
    | 4, _ => exact va_eqt (hs _ (nw_in _ (List.mem_of_getElem? (i := 21) rfl)))
    | 5, _ => exact va_eqt (hs _ (nw_in _ (List.mem_of_getElem? (i := 22) rfl)))
    | 6, _ => exact va_eqt (hs _ (nw_in _ (List.mem_of_getElem? (i := 23) rfl)))
    | 7, _ => exact va_eqt (hs _ (nw_in _ (List.mem_of_getElem? (i := 24) rfl)))
    | 8, _ => exact va_eqt (hs _ (nw_in _ (List.mem_of_getElem? (i := 25) rfl)))
    | 9, _ => exact va_eqt (hs _ (nw_in _ (List.mem_of_getElem? (i := 26) rfl)))
    | 10, _ => exact va_eqt (hs _ (nw_in _ (List.mem_of_getElem? (i := 27) rfl)))
    | 11, _ => exact va_eqt (hs _ (nw_in _ (List.mem_of_getElem? (i := 28) rfl)))
    | j + 12, hj => omega
theorem sw_str {s : State} {args : Array Value} (htt : ∀ w ∈ tables_1, w.before args s = true) (hs : ∀ w ∈ flatC (Cond.and given_1 narrow_1), w.before args s = true) : ∃ sa : Nat → Nat, ∀ (k : Nat) (q : String × Nat × String), stN[k]? = some q → vk_R q.1 q.2.1 q.2.2 (sa k) s := by
  have key : ∀ k : Nat, ∃ a : Nat, ∀ q : String × Nat × String, stN[k]? = some q → vk_R q.1 q.2.1 q.2.2 a s := by
    intro k
    cases hk : stN[k]? with
    | none => exact ⟨0, fun q hq => by cases hq⟩
    | some q =>
    have h1 : (Cond.exactly (.string q.1 q.2.1) "java/lang/String").before args s = true := by
      match k, hk with
    | 0, hq => (have e := Option.some.inj hq; rw [← e]; exact (hs _ (nw_in _ (List.mem_of_getElem? (i := 30) rfl))))
    | 1, hq => (have e := Option.some.inj hq; rw [← e]; exact (hs _ (nw_in _ (List.mem_of_getElem? (i := 31) rfl))))
    | 2, hq => (have e := Option.some.inj hq; rw [← e]; exact (hs _ (nw_in _ (List.mem_of_getElem? (i := 32) rfl))))
    | 3, hq => (have e := Option.some.inj hq; rw [← e]; exact (hs _ (nw_in _ (List.mem_of_getElem? (i := 33) rfl))))
    | 4, hq => (have e := Option.some.inj hq; rw [← e]; exact (hs _ (nw_in _ (List.mem_of_getElem? (i := 34) rfl))))
    | 5, hq => (have e := Option.some.inj hq; rw [← e]; exact (hs _ (nw_in _ (List.mem_of_getElem? (i := 35) rfl))))
    | 6, hq => (have e := Option.some.inj hq; rw [← e]; exact (hs _ (nw_in _ (List.mem_of_getElem? (i := 36) rfl))))
    | 7, hq => (have e := Option.some.inj hq; rw [← e]; exact (hs _ (nw_in _ (List.mem_of_getElem? (i := 37) rfl))))
    | 8, hq => (have e := Option.some.inj hq; rw [← e]; exact (hs _ (nw_in _ (List.mem_of_getElem? (i := 38) rfl))))
    | 9, hq => (have e := Option.some.inj hq; rw [← e]; exact (hs _ (nw_in _ (List.mem_of_getElem? (i := 39) rfl))))
    | 10, hq => (have e := Option.some.inj hq; rw [← e]; exact (hs _ (nw_in _ (List.mem_of_getElem? (i := 40) rfl))))
    | 11, hq => (have e := Option.some.inj hq; rw [← e]; exact (hs _ (nw_in _ (List.mem_of_getElem? (i := 41) rfl))))
    | 12, hq => (have e := Option.some.inj hq; rw [← e]; exact (hs _ (nw_in _ (List.mem_of_getElem? (i := 42) rfl))))
    | 13, hq => (have e := Option.some.inj hq; rw [← e]; exact (hs _ (nw_in _ (List.mem_of_getElem? (i := 43) rfl))))
    | 14, hq => (have e := Option.some.inj hq; rw [← e]; exact (hs _ (nw_in _ (List.mem_of_getElem? (i := 44) rfl))))
    | 15, hq => (have e := Option.some.inj hq; rw [← e]; exact (hs _ (nw_in _ (List.mem_of_getElem? (i := 45) rfl))))
    | 16, hq => (have e := Option.some.inj hq; rw [← e]; exact (hs _ (nw_in _ (List.mem_of_getElem? (i := 46) rfl))))
    | 17, hq => (have e := Option.some.inj hq; rw [← e]; exact (hs _ (nw_in _ (List.mem_of_getElem? (i := 47) rfl))))
      | k + 18, hq => (exfalso; rw [List.getElem?_eq_none (by show 18 ≤ k + 18; omega)] at hq; cases hq)
    obtain ⟨a, c, cell, kk, q1, -⟩ := Cond.exactly_spec h1
    have hin : Cond.stringRef q.1 q.2.1 q.2.2 ∈ tables_1 := by
      have : ∀ z ∈ stN, Cond.stringRef z.1 z.2.1 z.2.2 ∈ tables_1 := by decide +kernel
      exact this q (List.mem_of_getElem? hk)
    refine ⟨a, fun q2 h2 => ?_⟩
    cases Option.some.inj h2
    exact vk_R.of (A := args) (htt _ hin) q1
  exact ⟨fun k => Classical.choose (key k), fun k => Classical.choose_spec (key k)⟩
theorem sw_all {s : State} {b L : Nat} {xs : Nat → Int32} {args : Array Value} (hts : ∀ w ∈ lw_tbl, w.before args s = true) (hgv : (Cond.and given_1 narrow_1).before args s = true) (hX : va_X b L xs s s.heap) (hbl : b < s.heap.size) :
    ∃ (D : va_G) (dA : Nat → ClassId) (ad sa : Nat → Nat), ad 1003 = b ∧ SW ((L, xs), 0) s.heap.size D dA ad sa s s.heap := by
  have hs := flat_of_before _ hgv
  have hxu : ∀ w ∈ XU, w.before args s = true := fun w hw => hts w (XU_tbl hw)
  have htt : ∀ w ∈ tables_1, w.before args s = true := fun w hw => hts w (List.mem_append_right _ hw)
  obtain ⟨dA, hA⟩ := sw_arr hxu
  obtain ⟨dC, dI, hO⟩ := sw_obj hxu
  obtain ⟨t0, e0, h0⟩ := sw_t0 hs
  obtain ⟨t1, e1, h1⟩ := sw_t1 hs
  obtain ⟨t2, e2, h2⟩ := sw_t2 hs
  obtain ⟨sa, hS⟩ := sw_str htt hs
  have hN : ∀ a : Nat, a < s.heap.size → ¬ (fun q : Nat => s.heap.size ≤ q) a := fun a ha => Nat.not_le.mpr ha
  refine ⟨(dC, dI), dA, fun k => if k = 1000 then t0 else if k = 1001 then t1 else if k = 1002 then t2 else b, sa, rfl, ⟨hO, hA⟩, ?_, ?_, hS, ?_, ?_, ?_, ?_, ?_⟩
  · intro k hk
    rcases (show k = 0 ∨ k = 1 ∨ k = 2 ∨ k = 3 by omega) with rfl | rfl | rfl | rfl
    · exact h0
    · exact h1
    · exact h2
    · obtain ⟨scr, hcb, hof, hkn, hsz, hval⟩ := hX
      exact ⟨scr, hcb, hof, hkn, Nat.le_of_eq hsz.symm, by rw [hsz]; rfl, hval, Nat.not_le.mpr hbl⟩
  · intro k q hq
    match k, hq with
    | 0, hq => (have e := Option.some.inj hq; rw [← e]; exact va_Zref (htt _ (by decide +kernel)) (htt _ (by decide +kernel)) e0 hN)
    | 1, hq => (have e := Option.some.inj hq; rw [← e]; exact va_Zref (htt _ (by decide +kernel)) (htt _ (by decide +kernel)) e1 hN)
    | 2, hq => (have e := Option.some.inj hq; rw [← e]; exact va_Zref (htt _ (by decide +kernel)) (htt _ (by decide +kernel)) e2 hN)
    | k + 3, hq => (exfalso; rw [List.getElem?_eq_none (by show 3 ≤ k + 3; omega)] at hq; cases hq)
  · exact vx_Zqof (htt _ (by decide +kernel)) (htt _ (by decide +kernel)) (hs _ (nw_in _ (List.mem_of_getElem? (i := 54) rfl))) hN
  · exact vx_Zqof (htt _ (by decide +kernel)) (htt _ (by decide +kernel)) (hs _ (nw_in _ (List.mem_of_getElem? (i := 55) rfl))) hN
  · intro w hw
    have hw2 := List.mem_filter.mp hw
    refine va_Nw.of (A := args) ?_ (htt w hw2.1)
    have hg := hw2.2
    cases w <;> first
      | rfl
      | (simp [isNG] at hg)
  · intro q hq
    rcases (show q = ("java/lang/IllegalStateException", "java/lang/IllegalArgumentException") ∨ q = ("java/lang/IllegalArgumentException", "java/lang/IndexOutOfBoundsException") ∨ q = ("java/lang/ArithmeticException", "java/lang/IndexOutOfBoundsException") ∨ q = ("java/lang/IllegalStateException", "java/lang/IndexOutOfBoundsException") ∨ q = ("java/util/NoSuchElementException", "java/lang/UnsupportedOperationException") ∨ q = ("java/lang/IndexOutOfBoundsException", "java/util/NoSuchElementException") by simpa [NCL] using hq) with rfl | rfl | rfl | rfl | rfl | rfl
    · exact va_Nc.of (hs _ (nw_in _ (List.mem_of_getElem? (i := 48) rfl)))
    · exact va_Nc.of (hs _ (nw_in _ (List.mem_of_getElem? (i := 49) rfl)))
    · exact va_Nc.of (hs _ (nw_in _ (List.mem_of_getElem? (i := 50) rfl)))
    · exact va_Nc.of (hs _ (nw_in _ (List.mem_of_getElem? (i := 51) rfl)))
    · exact va_Nc.of (hs _ (nw_in _ (List.mem_of_getElem? (i := 52) rfl)))
    · exact va_Nc.of (hs _ (nw_in _ (List.mem_of_getElem? (i := 53) rfl)))
  · obtain ⟨a, cell, g1, g2, g3⟩ := len_exact (N := 8) (by decide) (va_eqt (z := Int32.ofNat 8) (hs _ (nw_in _ (List.mem_of_getElem? (i := 6) rfl))))
    obtain ⟨a', c, cell', kk, q1, q2, q3, -, -, q6, -⟩ := Cond.exactly_spec (hs _ (nw_in _ (List.mem_of_getElem? (i := 29) rfl)))
    cases g1.symm.trans q1
    cases g2.symm.trans q3
    cases g1.symm.trans e1
    exact ⟨cell, g2, g3, by rw [q6]; exact q2, Nat.not_le.mpr (Array.getElem?_eq_some_iff.mp g2).1⟩