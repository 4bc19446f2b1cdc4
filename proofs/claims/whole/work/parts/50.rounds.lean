/-! the model's round, folded -/
section ROUND2
variable {fb co : Int32 → Int32} {w : Int32} {n : Nat} {A : Nat → Nat → Int32} {g : Nat → Int32} {cost : Int32} {T : Nat}
def RM (fb co : Int32 → Int32) (T i : Nat) (s : MS) : Prop := ∃ b : BT, TopS (SN fb co i) b ∧ ML fb co s.1 b ∧ s.2.1 = nI (fb_ct (fun i => cb (alI fb i)) i) ∧ s.2.2.1 = nI (fb_ct (fun i => cb (alI fb i ∧ plI co i < plI co T)) i) ∧ s.2.2.2.1 = b2i (i ≤ T)
theorem RM_step (hc : coOK co) (hT : T < 21609) (hg : rowOf g T) (hcost : cost = co (codI T)) (hfb : ∀ f t, t < 21609 → dstI t → rowOf f t → (m_fb w A f = 0 ↔ fb (codI t) = 0)) (hco : ∀ f t, t < 21609 → dstI t → rowOf f t → m_cost n A f = co (codI t))
    {i : Nat} (hi : i < 21609) {s : MS} (h : RM fb co T i s) : RM fb co T (i + 1) (mSt w n A g cost i s) := by
  obtain ⟨b, h1, h2, h3, h4, h5⟩ := h
  have hr := dcd_row s.2.2.2.2 i
  generalize hf : dcd s.2.2.2.2 i = f at hr
  have hz : s.2.2.2.1 &&& b2i (¬ lkT f g 6) = b2i (i + 1 ≤ T) := by
    rw [h5]
    refine b2i_andI ?_
    rw [row_lk hi hT hr hg]; omega
  have hcond : (m_dst f ∧ m_fb w A f = 0) ↔ alI fb i := by
    rw [row_dst hi hr]
    constructor
    · intro z; exact ⟨z.1, (hfb f i hi z.1 hr).mp z.2⟩
    · intro z; exact ⟨z.1, (hfb f i hi z.1 hr).mpr z.2⟩
  by_cases ha : alI fb i
  · have hco' := hco f i hi ha.1 hr
    have e : mSt w n A g cost i s = (m_lay (co (codI i)) f s.1, s.2.1 + 1, s.2.2.1 + b2i (m_cost n A f < cost ∨ (m_cost n A f = cost ∧ ¬ (s.2.2.2.1 &&& b2i (¬ lkT f g 6)) = 0)), s.2.2.2.1 &&& b2i (¬ lkT f g 6), f) := by
      unfold mSt; rw [hf, if_pos (hcond.mpr ha), hco']
    rw [e]
    refine ⟨offerB b (plI co i), Top_step hc hi h1 ha, ML_step hc hi ha hr h1 h2, ?_, ?_, hz⟩
    · show s.2.1 + 1 = _
      rw [h3, ct_y (p := fun i => cb (alI fb i)) (cb_t ha)]; exact nI_1 _
    · show s.2.2.1 + b2i (m_cost n A f < cost ∨ (m_cost n A f = cost ∧ ¬ (s.2.2.2.1 &&& b2i (¬ lkT f g 6)) = 0)) = _
      have hiff : (m_cost n A f < cost ∨ (m_cost n A f = cost ∧ ¬ (s.2.2.2.1 &&& b2i (¬ lkT f g 6)) = 0)) ↔ plI co i < plI co T := by
        rw [hz, hco', hcost, b2i_nz]
        obtain ⟨C, c1, c2⟩ := hc i hi
        obtain ⟨D, e1, e2⟩ := hc T hT
        unfold plI
        rw [c2, e2, show codI i = nI (codT i) from rfl, show codI T = nI (codT T) from rfl, p_lt_N c1 (codT_lt hi) e1 (codT_lt hT), nI_ltI (by omega) (by omega), nI_eq (by omega) (by omega)]
        have hm : i < T ↔ codT i < codT T := by
          constructor
          · intro z; exact codT_mono hT z
          · intro z
            rcases Nat.lt_trichotomy i T with y | y | y
            · exact y
            · subst y; omega
            · have := codT_mono hi y; omega
        omega
      rw [h4]
      by_cases hl : plI co i < plI co T
      · rw [b2i_t (hiff.mpr hl), ct_y (p := fun i => cb (alI fb i ∧ plI co i < plI co T)) (cb_t ⟨ha, hl⟩)]; exact nI_1 _
      · rw [b2i_f (fun z => hl (hiff.mp z)), ct_n (p := fun i => cb (alI fb i ∧ plI co i < plI co T)) (cb_f (fun z => hl z.2))]; exact Int32.add_zero _
  · have e : mSt w n A g cost i s = (s.1, s.2.1, s.2.2.1, s.2.2.2.1 &&& b2i (¬ lkT f g 6), f) := by
      unfold mSt; rw [hf, if_neg (fun z => ha (hcond.mp z))]
    rw [e]
    refine ⟨b, Top_skip h1 (by omega) (fun t t1 t2 ht => ?_), h2, ?_, ?_, hz⟩
    · have : t = i := by omega
      subst this; exact absurd ht ha
    · show s.2.1 = _
      rw [h3, ct_n (p := fun i => cb (alI fb i)) (cb_f ha)]
    · show s.2.2.1 = _
      rw [h4, ct_n (p := fun i => cb (alI fb i ∧ plI co i < plI co T)) (cb_f (fun z => ha z.1))]
/-- THE MODEL'S ROUND -/
theorem m_all (hc : coOK co) (hT : T < 21609) (hg : rowOf g T) (hcost : cost = co (codI T)) (hfb : ∀ f t, t < 21609 → dstI t → rowOf f t → (m_fb w A f = 0 ↔ fb (codI t) = 0)) (hco : ∀ f t, t < 21609 → dstI t → rowOf f t → m_cost n A f = co (codI t))
    {C0 R0 f0 : Nat → Int32} (N : Nat) (hN : N ≤ 21609) {S : MS} (hS : fl (mSt w n A g cost) N 0 ((0, C0, R0), 0, 0, 1, f0) = S) : RM fb co T N S := by
  have h0 : RM fb co T 0 ((0, C0, R0), 0, 0, 1, f0) := ⟨(0, fun _ => 0), TopS_c SN_0 (TopS_0 _), ⟨rfl, fun j hj => absurd hj (Nat.not_lt_zero j)⟩, rfl, rfl, (b2i_t (Nat.zero_le T)).symm⟩
  have key := fl_ind (g := mSt w n A g cost) (P := fun i s => RM fb co T i s) N 0 _ (fun i s _ hi hb => RM_step hc hT hg hcost hfb hco (by omega) hb) h0
  rw [hS, Nat.zero_add] at key
  exact key
end ROUND2
