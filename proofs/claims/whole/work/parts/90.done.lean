/-! the law holds -/
theorem law_done : ∀ X : XS, X.1 ≤ 3584 → AW X 234 0 [(0, .ref 1003)] [] [] 2700 16000 (fun o _ => o = .inl (some (.int 1))) := by
  intro X hX
  exact law_start hX Rel (fun _ => rfl) (init_rel PLC rfl) st_addRow st_dropRow st_put st_rows st_different st_sumOf st_meanOf st_filled st_kindOf st_force st_unforce st_wish st_wishMark st_forbid st_allow st_setWeight st_allowed st_cost st_costByTrying st_mark st_aggregate st_column st_setMargin st_pick st_pickMark st_pickAggregate st_pickColumn st_formerPicks st_unpick st_forget st_draftMark st_draftAggregate st_draftColumn st_brokenRule st_softRules st_draftCost st_draftRank st_isSound
