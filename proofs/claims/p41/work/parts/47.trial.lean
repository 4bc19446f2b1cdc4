/-! the trial finds them too, and counts -/
noncomputable def cb (p : Prop) : Bool := @decide p (Classical.propDecidable p)
theorem cb_t {p : Prop} (h : p) : cb p = true := by unfold cb; exact @decide_eq_true p (Classical.propDecidable p) h
theorem cb_f {p : Prop} (h : ¬ p) : cb p = false := by unfold cb; exact @decide_eq_false p (Classical.propDecidable p) h
theorem cb_i {p : Prop} (h : cb p = true) : p := by unfold cb at h; exact @of_decide_eq_true p (Classical.propDecidable p) h
theorem cb_c {p q : Prop} (h : p ↔ q) : cb p = cb q := by rw [propext h]
theorem ct_y {p : Nat → Bool} {n : Nat} (h : p n = true) : fb_ct p (n + 1) = fb_ct p n + 1 := by rw [fb_ct_succ, h]; rfl
theorem ct_n {p : Nat → Bool} {n : Nat} (h : p n = false) : fb_ct p (n + 1) = fb_ct p n := by rw [fb_ct_succ, h]; rfl
/-- as many, told in another order -/
theorem ct_inj {N : Nat} {τ : Nat → Nat} : ∀ (M : Nat) (q : Nat → Bool), (∀ u, u < M → τ u < N) → (∀ u v, u < M → v < M → τ u = τ v → u = v) → (∀ t, t < N → q t = true → ∃ u, u < M ∧ τ u = t) → fb_ct q N = fb_ct (fun u => q (τ u)) M
  | 0, q, _, _, h3 => by
    show fb_ct q N = 0
    refine fb_ct_zero.mpr (fun k hk => ?_)
    cases hq : q k with
    | false => rfl
    | true => obtain ⟨u, hu, -⟩ := h3 k hk hq; omega
  | M + 1, q, h1, h2, h3 => by
    have hl := h1 M (by omega)
    have e := fb_ct_upd q false hl
    have ih := ct_inj (τ := τ) M (fun k => if k = τ M then false else q k) (fun u hu => h1 u (by omega)) (fun u v hu hv => h2 u v (by omega) (by omega)) (fun t ht hq => by
      by_cases hz : t = τ M
      · rw [if_pos hz] at hq; cases hq
      · rw [if_neg hz] at hq
        obtain ⟨u, hu, he⟩ := h3 t ht hq
        refine ⟨u, ?_, he⟩
        have : ¬ u = M := fun z => hz (by rw [← he, z])
        omega)
    have c : fb_ct (fun u => if τ u = τ M then false else q (τ u)) M = fb_ct (fun u => q (τ u)) M := by
      apply fb_ct_cong
      intro u hu
      have : ¬ τ u = τ M := fun z => by have := h2 u M (by omega) (by omega) z; omega
      rw [if_neg this]
    rw [ih] at e
    rw [fb_ct_succ]
    have e2 : fb_ct (fun u => if τ u = τ M then false else q (τ u)) M + (if q (τ M) = true then 1 else 0) = fb_ct q N + 0 := e
    rw [c] at e2
    omega
/-- the placements, as the class lists them -/
def okP (i : Nat) : Bool := decide (i / 512 % 8 < 7) && decide (i / 64 % 8 < 7) && decide (i / 8 % 8 < 7) && decide (i % 8 < 7) &&
  (decide (i / 512 % 8 = 0) || (decide (i / 512 % 8 ≠ i / 64 % 8) && decide (i / 512 % 8 ≠ i / 8 % 8) && decide (i / 512 % 8 ≠ i % 8))) &&
  (decide (i / 64 % 8 = 0) || (decide (i / 64 % 8 ≠ i / 8 % 8) && decide (i / 64 % 8 ≠ i % 8))) && (decide (i / 8 % 8 = 0) || decide (i / 8 % 8 ≠ i % 8))
theorem okP_iff (i : Nat) : okP i = true ↔ (i / 512 % 8 < 7 ∧ i / 64 % 8 < 7 ∧ i / 8 % 8 < 7 ∧ i % 8 < 7) ∧ dist (i / 512 % 8) (i / 64 % 8) (i / 8 % 8) (i % 8) := by
  unfold okP dist
  simp only [Bool.and_eq_true, Bool.or_eq_true, decide_eq_true_eq]
  constructor
  · rintro ⟨⟨⟨⟨⟨⟨a1, a2⟩, a3⟩, a4⟩, a5⟩, a6⟩, a7⟩
    exact ⟨⟨a1, a2, a3, a4⟩, a5.imp id (fun z => ⟨z.1.1, z.1.2, z.2⟩), a6, a7⟩
  · rintro ⟨⟨a1, a2, a3, a4⟩, a5, a6, a7⟩
    exact ⟨⟨⟨⟨⟨⟨a1, a2⟩, a3⟩, a4⟩, a5.imp id (fun z => ⟨⟨z.1, z.2.1⟩, z.2.2⟩)⟩, a6⟩, a7⟩
theorem plR_64 : ∀ a, a < 64 → ∀ b, b < 64 → decide (plR (nI (64 * a + b)) 4 0 0 = 0) = !okP (64 * a + b) := by decide +kernel
theorem plR_ok (i : Nat) (h : i < 4096) : decide (plR (nI i) 4 0 0 = 0) = !okP i := by
  have := plR_64 (i / 64) (by omega) (i % 64) (by omega)
  rw [show 64 * (i / 64) + i % 64 = i by omega] at this
  exact this
theorem okP_n : fb_ct okP 4096 = 1045 := by
  have e : fb_ct okP 4096 = fb_ct (fun k => okP (512 * 0 + k)) 512 + fb_ct (fun k => okP (512 * 1 + k)) 512 + fb_ct (fun k => okP (512 * 2 + k)) 512 + fb_ct (fun k => okP (512 * 3 + k)) 512 + fb_ct (fun k => okP (512 * 4 + k)) 512 + fb_ct (fun k => okP (512 * 5 + k)) 512 + fb_ct (fun k => okP (512 * 6 + k)) 512 + fb_ct (fun k => okP (512 * 7 + k)) 512 := by
    rw [show (4096 : Nat) = 3584 + 512 from rfl, fb_ct_split, show (3584 : Nat) = 3072 + 512 from rfl, fb_ct_split, show (3072 : Nat) = 2560 + 512 from rfl, fb_ct_split, show (2560 : Nat) = 2048 + 512 from rfl, fb_ct_split, show (2048 : Nat) = 1536 + 512 from rfl, fb_ct_split, show (1536 : Nat) = 1024 + 512 from rfl, fb_ct_split, show (1024 : Nat) = 512 + 512 from rfl, fb_ct_split]
    have z : fb_ct okP 512 = fb_ct (fun k => okP (512 * 0 + k)) 512 := fb_ct_cong (fun k _ => by rw [Nat.mul_zero, Nat.zero_add])
    rw [z]
  rw [e]
  decide +kernel
theorem PLC_inv (i : Nat) (hi : i ≤ 4096) : (fl plS i 0 s00).2 = fb_ct okP i ∧ ∀ j, j < i → okP j = true → (fl plS i 0 s00).1 (fb_ct okP j) = nI j := by
  have h := fl_ind (g := plS) (P := fun i s => i ≤ 4096 → s.2 = fb_ct okP i ∧ ∀ j, j < i → okP j = true → s.1 (fb_ct okP j) = nI j) i 0 s00 (fun k s _ hk ih hk2 => ?_) (fun _ => ⟨rfl, fun j hj => absurd hj (Nat.not_lt_zero j)⟩)
  · rw [Nat.zero_add] at h; exact h hi
  · obtain ⟨e, f⟩ := ih (by omega)
    have hr := plR_ok k (by omega)
    have hmono := fb_ct_mono okP (show k + 1 ≤ 4096 by omega)
    rw [okP_n] at hmono
    cases hok : okP k with
    | false =>
      rw [hok] at hr
      have hz : plR (nI k) 4 0 0 = 0 := of_decide_eq_true hr
      have es : plS k s = s := by
        unfold plS; rw [if_pos hz]; split <;> rfl
      rw [es, ct_n hok]
      refine ⟨e, fun j hj ho => ?_⟩
      by_cases hjk : j = k
      · subst hjk; rw [hok] at ho; cases ho
      · exact f j (by omega) ho
    | true =>
      rw [hok] at hr
      have hz : ¬ plR (nI k) 4 0 0 = 0 := of_decide_eq_false hr
      rw [ct_y hok] at hmono
      have es : plS k s = (upd s.1 s.2 (nI k), s.2 + 1) := by
        unfold plS; rw [if_pos (by omega), if_neg hz]
      rw [es, ct_y hok]
      refine ⟨by show s.2 + 1 = _; rw [e], fun j hj ho => ?_⟩
      show upd s.1 s.2 (nI k) (fb_ct okP j) = nI j
      by_cases hjk : j = k
      · subst hjk; rw [e]; exact pk_us
      · have hlt : fb_ct okP j < fb_ct okP k := by
          have := fb_ct_mono okP (show j + 1 ≤ k by omega)
          rw [ct_y ho] at this; omega
        rw [pk_un (by rw [e]; omega)]
        exact f j (by omega) ho
theorem PLC_at {s : Nat} (h : s < 1045) : ∃ P, P < 4096 ∧ okP P = true ∧ fb_ct okP P = s ∧ PLC s = nI P := by
  have h2 : s < fb_ct okP 4096 := by rw [okP_n]; exact h
  obtain ⟨P, p1, p2, p3⟩ := fb_ct_kth h2
  refine ⟨P, p1, p2, p3, ?_⟩
  have z := (PLC_inv 4096 (Nat.le_refl _)).2 P p1 p2
  have e : (fl plS 4096 0 s00).1 = PLC := PLC.eq_1.symm
  rw [p3, e] at z
  exact z
/-- the placement's number, and the chart's -/
noncomputable def plN (s : Nat) : Nat := if h : s < 1045 then Classical.choose (PLC_at h) else 0
theorem plN_at {s : Nat} (h : s < 1045) : plN s < 4096 ∧ okP (plN s) = true ∧ fb_ct okP (plN s) = s ∧ PLC s = nI (plN s) := by
  unfold plN; rw [dif_pos h]; exact Classical.choose_spec (PLC_at h)
noncomputable def tau (u : Nat) : Nat := idx (u / 3 % 3) (u % 3) (plN (u / 9) / 512 % 8) (plN (u / 9) / 64 % 8) (plN (u / 9) / 8 % 8) (plN (u / 9) % 8)
theorem tau_d {u : Nat} (h : u < 9405) : dgt (u / 3 % 3) (u % 3) (plN (u / 9) / 512 % 8) (plN (u / 9) / 64 % 8) (plN (u / 9) / 8 % 8) (plN (u / 9) % 8) ∧ dist (plN (u / 9) / 512 % 8) (plN (u / 9) / 64 % 8) (plN (u / 9) / 8 % 8) (plN (u / 9) % 8) := by
  have hs := plN_at (s := u / 9) (by omega)
  have ho := (okP_iff _).mp hs.2.1
  exact ⟨⟨by omega, by omega, ho.1.1, ho.1.2.1, ho.1.2.2.1, ho.1.2.2.2⟩, ho.2⟩
theorem tau_lt {u : Nat} (h : u < 9405) : tau u < 21609 := (t_idx (tau_d h).1).2.2.2.2.2.2
theorem tau_inj {u v : Nat} (hu : u < 9405) (hv : v < 9405) (h : tau u = tau v) : u = v := by
  have a := t_idx (tau_d hu).1
  have b := t_idx (tau_d hv).1
  unfold tau at h
  rw [h] at a
  have pu := plN_at (s := u / 9) (by omega)
  have pv := plN_at (s := v / 9) (by omega)
  have e1 := a.1.symm.trans b.1
  have e2 := a.2.1.symm.trans b.2.1
  have e3 := a.2.2.1.symm.trans b.2.2.1
  have e4 := a.2.2.2.1.symm.trans b.2.2.2.1
  have e5 := a.2.2.2.2.1.symm.trans b.2.2.2.2.1
  have e6 := a.2.2.2.2.2.1.symm.trans b.2.2.2.2.2.1
  have ep : plN (u / 9) = plN (v / 9) := by
    have := pu.1; have := pv.1; omega
  have es : u / 9 = v / 9 := by rw [← pu.2.2.1, ← pv.2.2.1, ep]
  omega
theorem tau_on {t : Nat} (h : t < 21609) (hd : dstI t) : ∃ u, u < 9405 ∧ tau u = t := by
  obtain ⟨g1, g2, g3, g4, g5, g6⟩ := dgt_t h
  have hP : 512 * d0 t + (64 * d1 t + (8 * d2 t + d3 t)) < 4096 := by omega
  have q0 : (512 * d0 t + (64 * d1 t + (8 * d2 t + d3 t))) / 512 % 8 = d0 t := by omega
  have q1 : (512 * d0 t + (64 * d1 t + (8 * d2 t + d3 t))) / 64 % 8 = d1 t := by omega
  have q2 : (512 * d0 t + (64 * d1 t + (8 * d2 t + d3 t))) / 8 % 8 = d2 t := by omega
  have q3 : (512 * d0 t + (64 * d1 t + (8 * d2 t + d3 t))) % 8 = d3 t := by omega
  generalize 512 * d0 t + (64 * d1 t + (8 * d2 t + d3 t)) = P at *
  have ho : okP P = true := (okP_iff _).mpr ⟨⟨by omega, by omega, by omega, by omega⟩, by rw [q0, q1, q2, q3]; exact hd⟩
  have hs : fb_ct okP P < 1045 := by
    have := fb_ct_mono okP (show P + 1 ≤ 4096 by omega)
    rw [ct_y ho, okP_n] at this; omega
  have hp := plN_at hs
  have eP : plN (fb_ct okP P) = P := fb_ct_kth_one hp.2.1 ho hp.2.2.1
  refine ⟨9 * fb_ct okP P + 3 * dm t + da t, by omega, ?_⟩
  unfold tau
  rw [show (9 * fb_ct okP P + 3 * dm t + da t) / 9 = fb_ct okP P by omega, eP, q0, q1, q2, q3, show (9 * fb_ct okP P + 3 * dm t + da t) / 3 % 3 = dm t by omega, show (9 * fb_ct okP P + 3 * dm t + da t) % 3 = da t by omega]
  exact idx_t t
