/-! the trial, folded -/
section TRIED
variable {fb co : Int32 → Int32} {cmp : Int64}
def ST (fb co : Int32 → Int32) (k : Nat) (p : Int64) : Prop := ∃ u, u < k ∧ alI fb (tau u) ∧ plI co (tau u) = p
def RT (fb co : Int32 → Int32) (cmp : Int64) (k : Nat) (t : TT) : Prop := TopS (ST fb co k) t.1 ∧ t.2.1 = nI (fb_ct (fun u => cb (alI fb (tau u))) k) ∧ t.2.2 = nI (fb_ct (fun u => cb (alI fb (tau u) ∧ plI co (tau u) < cmp)) k)
theorem RT_skip {k : Nat} {t : TT} (hn : ¬ alI fb (tau k)) (h : RT fb co cmp k t) : RT fb co cmp (k + 1) t := by
  obtain ⟨h1, h2, h3⟩ := h
  refine ⟨TopS_c (fun p => ?_) h1, ?_, ?_⟩
  · constructor
    · rintro ⟨u, u1, u2⟩; exact ⟨u, by omega, u2⟩
    · rintro ⟨u, u1, u2, u3⟩
      by_cases hu : u = k
      · subst hu; exact absurd u2 hn
      · exact ⟨u, by omega, u2, u3⟩
  · rw [h2, ct_n (p := fun u => cb (alI fb (tau u))) (cb_f hn)]
  · rw [h3, ct_n (p := fun u => cb (alI fb (tau u) ∧ plI co (tau u) < cmp)) (cb_f (fun z => hn z.1))]
theorem RT_step (hc : coOK co) {k : Nat} (hk : k < 9405) {t : TT} (h : RT fb co cmp k t) : RT fb co cmp (k + 1) (tStep fb co cmp (codI (tau k)) t) := by
  have hd : dstI (tau k) := by
    have z := t_idx (tau_d hk).1
    unfold dstI
    show dist (d0 (idx _ _ _ _ _ _)) (d1 (idx _ _ _ _ _ _)) (d2 (idx _ _ _ _ _ _)) (d3 (idx _ _ _ _ _ _))
    rw [z.2.2.1, z.2.2.2.1, z.2.2.2.2.1, z.2.2.2.2.2.1]
    exact (tau_d hk).2
  unfold tStep
  by_cases hf : fb (codI (tau k)) = 0
  · rw [if_pos hf]
    have ha : alI fb (tau k) := ⟨hd, hf⟩
    obtain ⟨h1, h2, h3⟩ := h
    refine ⟨?_, ?_, ?_⟩
    · have hnew : ¬ ST fb co k (plI co (tau k)) := by
        rintro ⟨u, u1, -, u3⟩
        have := tau_inj (by omega) hk (plI_inj hc (tau_lt (by omega)) (tau_lt hk) u3)
        omega
      refine TopS_c (fun p => ?_) (TopS_offer h1 hnew)
      constructor
      · rintro (⟨u, u1, u2⟩ | rfl)
        · exact ⟨u, by omega, u2⟩
        · exact ⟨k, by omega, ha, rfl⟩
      · rintro ⟨u, u1, u2, u3⟩
        by_cases hu : u = k
        · subst hu; exact Or.inr u3.symm
        · exact Or.inl ⟨u, by omega, u2, u3⟩
    · show t.2.1 + 1 = _
      rw [h2, ct_y (p := fun u => cb (alI fb (tau u))) (cb_t ha)]; exact nI_1 _
    · show t.2.2 + b2i (plI co (tau k) < cmp) = _
      rw [h3]
      by_cases hl : plI co (tau k) < cmp
      · rw [b2i_t hl, ct_y (p := fun u => cb (alI fb (tau u) ∧ plI co (tau u) < cmp)) (cb_t ⟨ha, hl⟩)]; exact nI_1 _
      · rw [b2i_f hl, ct_n (p := fun u => cb (alI fb (tau u) ∧ plI co (tau u) < cmp)) (cb_f (fun z => hl z.2))]; exact Int32.add_zero _
  · rw [if_neg hf]
    exact RT_skip (fun z => hf z.2) h
theorem RT_9 {k : Nat} {t : TT} (h : RT fb co cmp k t) : ∀ n, (∀ j, j < n → ¬ alI fb (tau (k + j))) → RT fb co cmp (k + n) t
  | 0, _ => h
  | n + 1, hn => RT_skip (hn n (by omega)) (RT_9 h n (fun j hj => hn j (by omega)))
/-- THE TRIAL: the five best of all charts that are allowed, how many there are, how many lie ahead of a place -/
theorem t_all (hc : coOK co) {dull : Int32 → Prop} [DecidablePred dull] (hdl : ∀ m a s0 s1 s2 s3, dgt m a s0 s1 s2 s3 → dull (nI (512 * s0 + (64 * s1 + (8 * s2 + s3)))) → ¬ fb (cod m a s0 s1 s2 s3) = 0) (f : Nat → Int64) {t : TT} (ht : fl (tOne fb co dull cmp PLC) 1045 0 ((0, f), 0, 0) = t) :
    TopS (SN fb co 21609) t.1 ∧ t.2.1 = nI (fb_ct (fun i => cb (alI fb i)) 21609) ∧ t.2.2 = nI (fb_ct (fun i => cb (alI fb i ∧ plI co i < cmp)) 21609) := by
  have h0 : RT fb co cmp 0 ((0, f), 0, 0) := ⟨TopS_c (fun p => ⟨False.elim, fun ⟨u, hu, _⟩ => absurd hu (Nat.not_lt_zero u)⟩) (TopS_0 f), rfl, rfl⟩
  have key : RT fb co cmp (9 * (0 + 1045)) (fl (tOne fb co dull cmp PLC) 1045 0 ((0, f), 0, 0)) := by
    refine fl_ind (P := fun i t => RT fb co cmp (9 * i) t) 1045 0 ((0, f), 0, 0) (fun i t _ hi hb => ?_) h0
    have hi2 : i < 1045 := by omega
    obtain ⟨p1, p2, p3, p4⟩ := plN_at hi2
    have ho := (okP_iff _).mp p2
    have eP : plN i = 512 * (plN i / 512 % 8) + (64 * (plN i / 64 % 8) + (8 * (plN i / 8 % 8) + plN i % 8)) := by omega
    have et : ∀ m a, m < 3 → a < 3 → tau (9 * i + 3 * m + a) = idx m a (plN i / 512 % 8) (plN i / 64 % 8) (plN i / 8 % 8) (plN i % 8) := by
      intro m a hm ha
      unfold tau
      rw [show (9 * i + 3 * m + a) / 9 = i by omega, show (9 * i + 3 * m + a) / 3 % 3 = m by omega, show (9 * i + 3 * m + a) % 3 = a by omega]
    have hg : ∀ m a, m < 3 → a < 3 → dgt m a (plN i / 512 % 8) (plN i / 64 % 8) (plN i / 8 % 8) (plN i % 8) := fun m a hm ha => ⟨hm, ha, ho.1.1, ho.1.2.1, ho.1.2.2.1, ho.1.2.2.2⟩
    unfold tOne
    by_cases hd : dull (PLC i)
    · rw [if_pos hd]
      refine RT_9 hb 9 (fun j hj => ?_)
      have e := et (j / 3) (j % 3) (by omega) (by omega)
      rw [show 9 * i + 3 * (j / 3) + j % 3 = 9 * i + j by omega] at e
      rw [e]
      intro hal
      have hz := (al_idx (hg (j / 3) (j % 3) (by omega) (by omega))).mp hal
      rw [p4, eP] at hd
      exact hdl _ _ _ _ _ _ (hg (j / 3) (j % 3) (by omega) (by omega)) hd hz.2
    · rw [if_neg hd]
      have k1 := fl_ind (g := tMark fb co cmp (PLC i)) (P := fun m t => RT fb co cmp (9 * i + 3 * m) t) 3 0 t (fun m t _ hm hb => ?_) hb
      · rw [show 9 * i + 3 * (0 + 3) = 9 * (i + 1) by omega] at k1; exact k1
      · have hm3 : m < 3 := by omega
        have k2 := fl_ind (g := tAgg fb co cmp (PLC i) (ro_m m)) (P := fun a t => RT fb co cmp (9 * i + 3 * m + a) t) 3 0 t (fun a t _ ha hb => ?_) hb
        · rw [show 9 * i + 3 * m + (0 + 3) = 9 * i + 3 * (m + 1) by omega] at k2; exact k2
        · have ha3 : a < 3 := by omega
          have hk : 9 * i + 3 * m + a < 9405 := by omega
          have ec : codI (tau (9 * i + 3 * m + a)) = g_bare (ro_m m) (nI a) ||| PLC i := by
            rw [et m a hm3 ha3, codI_idx (hg m a hm3 ha3), ro_mkN hm3, cod_bare hm3 ha3, p4]
            conv => rhs; rw [eP]
            exact (cod_or (hg m a hm3 ha3)).symm
          have z := RT_step hc hk hb
          rw [ec] at z
          exact z
  rw [ht] at key
  obtain ⟨h1, h2, h3⟩ := key
  refine ⟨TopS_c (fun p => ?_) h1, ?_, ?_⟩
  · constructor
    · rintro ⟨u, u1, u2, u3⟩; exact ⟨tau u, tau_lt (by omega), u2, u3⟩
    · rintro ⟨t, t1, t2, t3⟩
      obtain ⟨u, u1, u2⟩ := tau_on t1 t2.1
      exact ⟨u, by omega, by rw [u2]; exact t2, by rw [u2]; exact t3⟩
  · rw [h2, ct_inj (N := 21609) (τ := tau) 9405 (fun i => cb (alI fb i)) (fun u hu => tau_lt hu) (fun u v hu hv => tau_inj hu hv) (fun t ht hq => tau_on ht (cb_i hq).1)]
  · rw [h3, ct_inj (N := 21609) (τ := tau) 9405 (fun i => cb (alI fb i ∧ plI co i < cmp)) (fun u hu => tau_lt hu) (fun u v hu hv => tau_inj hu hv) (fun t ht hq => tau_on ht (cb_i hq).1.1)]
end TRIED
