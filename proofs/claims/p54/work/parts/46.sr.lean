/-! save, restore, append -/
theorem save_LI {n : Int} {L : List HS} {w : OS} (h : LI n L w) : LI n L (fX5_save w).2 ∧ (fX5_save w).1 = fX3_countPlaced (og0 w) ∧ og0 (fX5_save w).2 = og0 w ∧ og1 (fX5_save w).2 = og0 w ∧ og5 (fX5_save w).2 = og5 w ∧ og8 (fX5_save w).2 = 1 := by
  obtain ⟨⟨o1, o2, o3, o4, o5, o6, o7⟩, h2, h3, h4⟩ := h
  exact ⟨⟨⟨o1, o1, o3, o4, o5, o6, o7⟩, h2, h3, h4⟩, rfl, rfl, rfl, rfl, rfl⟩
/-- the world after a restore -/
def resO (w : OS) : OS := osH (fX4_forget (oH (os0 (og1 w) w))) (os0 (og1 w) w)
theorem rest_no {w : OS} (h : og8 w = 0) : fX5_restore w = (1, 0, w) := by
  unfold fX5_restore
  rw [if_pos h]
theorem rest_yes {w : OS} (h : ¬ og8 w = 0) : fX5_restore w = (0, fX3_countPlaced (og1 w), resO w) := by
  unfold fX5_restore
  rw [if_neg h]
  rfl
theorem rest_LI {n : Int} {L : List HS} {w : OS} (h : LI n L w) (g : GI n (og1 w)) : LI n [] (resO w) ∧ og0 (resO w) = og1 w ∧ og1 (resO w) = og1 w ∧ og5 (resO w) = og5 w ∧ og8 (resO w) = og8 w := by
  obtain ⟨⟨o1, o2, o3, o4, o5, o6, o7⟩, h2, h3, h4⟩ := h
  refine ⟨⟨⟨o2, o2, o3, o4, Nat.zero_le _, o6, o7⟩, g, fun x hx => (by cases hx), ⟨rfl, by decide, o4, fun i x hx => (by cases hx)⟩⟩, rfl, rfl, rfl, rfl⟩
/-- the world after an append -/
def appO (w : OS) (x : Int32) : OS := os5 (fX2_add (og5 w) x).2 w
theorem app_yes {w : OS} {x : Int32} (h1 : ¬ x < 32) (h2 : x ≤ 126) (h3 : q1 (og5 w) < 60) : wrp (fX5_append w x) = (nI (q1 (og5 w) + 1), appO w x) := by
  unfold fX5_append
  have e : fX2_isFull (og5 w) = 0 := by
    unfold fX2_isFull
    exact if_pos h3
  rw [if_neg h1, if_pos h2, if_pos e]
  rfl
theorem app_full {w : OS} {x : Int32} (h1 : ¬ x < 32) (h2 : x ≤ 126) (h3 : ¬ q1 (og5 w) < 60) : wrp (fX5_append w x) = (-1002, w) := by
  unfold fX5_append
  have e : ¬ fX2_isFull (og5 w) = 0 := by
    unfold fX2_isFull
    rw [if_neg h3]
    decide
  rw [if_neg h1, if_pos h2, if_neg e]
  rfl
theorem app_LI {n : Int} {L : List HS} {w : OS} {x : Int32} (h : LI n L w) (h3 : q1 (og5 w) < 60) : LI n L (appO w x) ∧ og0 (appO w x) = og0 w ∧ og1 (appO w x) = og1 w ∧ q1 (og5 (appO w x)) = q1 (og5 w) + 1 ∧ og8 (appO w x) = og8 w := by
  obtain ⟨⟨o1, o2, o3, o4, o5, o6, o7⟩, h2, h4, h5⟩ := h
  refine ⟨⟨⟨o1, o2, o3, o4, o5, ⟨?_, trivial, o6.2.2.1, o6.2.2.2⟩, o7⟩, h2, h4, h5⟩, rfl, rfl, rfl, rfl⟩
  show q1 (og5 w) + 1 ≤ 60
  omega
theorem GI_new : GI 0 Hnew := by
  refine ⟨⟨by decide, by decide⟩, ?_, ?_, ?_, ?_, ⟨by decide, by decide⟩, ?_⟩
  · decide +kernel
  · intro g hg
    have h : ∀ g, g < 8 → h2 Hnew g = -1 := by decide +kernel
    exact Or.inl (h g hg)
  · have h : ∀ g, g < 8 → h4 Hnew g = 0 := by decide +kernel
    intro g j hg hj _
    rw [h g hg, h j hj]
    rfl
  · intro g hg
    have h : ∀ g, g < 8 → h5 Hnew g = -1 := by decide +kernel
    exact Or.inl (h g hg)
  · decide +kernel
theorem LI_new : LI 0 [] Onew := by
  refine ⟨⟨GI_new.1, GI_new.1, fun _ => GI_new.1, by decide, by decide, ⟨by decide, trivial, by decide, fun k => by show 0 < 10; decide⟩, by decide⟩, GI_new, fun x hx => (by cases hx), HQ_new⟩
