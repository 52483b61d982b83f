/-! the sign of a wrapper's answer -/
theorem wrp_neg {F : Nat × Int32 × OS} (h : F.1 ≠ 0) : (wrp F).1 < 0 ∧ (wrp F).2 = F.2.2 := by
  unfold wrp
  rw [if_neg h]
  refine ⟨?_, rfl⟩
  show (if F.1 = 1 then (-1001 : Int32) else if F.1 = 2 then -1002 else -1003) < 0
  repeat' split
  all_goals decide
theorem wrp_pos {F : Nat × Int32 × OS} (h : F.1 = 0) (g : 0 ≤ F.2.1.toInt) : ¬ (wrp F).1 < 0 ∧ (wrp F).2 = F.2.2 := by
  unfold wrp
  rw [if_pos h]
  refine ⟨?_, rfl⟩
  show ¬ F.2.1 < 0
  rw [Int32.lt_iff_toInt_lt]
  have e0 : (0 : Int32).toInt = 0 := by decide
  rw [e0]
  omega
theorem wrb_neg {F : Nat × Int32 × OS} (h : F.1 ≠ 0) : (wrb F).1 < 0 ∧ (wrb F).2 = F.2.2 := by
  unfold wrb
  rw [if_neg h]
  refine ⟨?_, rfl⟩
  show (if F.1 = 1 then (-1001 : Int32) else if F.1 = 2 then -1002 else -1003) < 0
  repeat' split
  all_goals decide
theorem wrb_pos {F : Nat × Int32 × OS} (h : F.1 = 0) : ¬ (wrb F).1 < 0 ∧ (wrb F).2 = F.2.2 := by
  unfold wrb
  rw [if_pos h]
  refine ⟨?_, rfl⟩
  show ¬ (if F.2.1 = 0 then (0 : Int32) else 1) < 0
  split
  all_goals decide
