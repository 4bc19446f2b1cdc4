/-! the law holds -/
theorem law_done : ∀ X : XS, X.1.1 ≤ 260 → X.2 = 0 → AW X 151 0 [(0, .ref 1003)] [] [] 1004702 6082116 (fun o _ => o = .inl (some (.int 1))) := fun _ hX h0 => law_run hX h0 (fun _ => rfl)
