/-! what thrown asks of each chair -/
theorem rch_0 : ∀ c, c < 40 → fX5_requireChair (nI c) = 0 := by decide +kernel
theorem z_isCovered {h : HS} {c : Nat} (hc : c < 40) : wb (r_isCovered h (nI c)) = if fX3_covererAt h (nI c) = -1 then 0 else 1 := by
  unfold r_isCovered
  rw [rch_0 c hc, if_pos rfl]
  split <;> rfl
theorem z_coverer {h : HS} {c : Nat} (hc : c < 40) (v : fX3_covererAt h (nI c) = -1) : wv (r_covererOf h (nI c)) = -1002 := by
  unfold r_covererOf
  rw [rch_0 c hc, if_pos rfl, if_pos v]
  rfl
