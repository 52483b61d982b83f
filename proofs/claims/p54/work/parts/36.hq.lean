/-! the history as a list of halls, the latest first -/
def HQ (w : OS) (L : List HS) : Prop := L.length = og4 w ∧ L.length ≤ 8 ∧ og3 w < 9 ∧ ∀ (i : Nat) (x : HS), L[i]? = some x → og2 w ((og3 w + 8 - i) % 9) = x
def nx (k : Nat) : Nat := if 9 ≤ k + 1 then 0 else k + 1
def pv (k : Nat) : Nat := if k = 0 then 8 else k - 1
theorem remO_2 (w : OS) : og2 (remO w) = va_up (og2 w) (og3 w) (og0 w) := by
  show hv0 (fX4_remember (oH w)) = _
  unfold fX4_remember fX4_keep fX4_prepare
  split <;> rfl
theorem remO_3 (w : OS) : og3 (remO w) = nx (og3 w) := by
  show hv1 (fX4_remember (oH w)) = _
  unfold fX4_remember fX4_keep fX4_prepare nx
  show hv1 (if 9 ≤ og3 w + 1 then _ else _) = if 9 ≤ og3 w + 1 then 0 else og3 w + 1
  split <;> rfl
theorem remO_4 (w : OS) : og4 (remO w) = if 8 < og4 w + 1 then 8 else og4 w + 1 := by
  show hv2 (fX4_remember (oH w)) = _
  unfold fX4_remember fX4_keep fX4_prepare
  split <;> rfl
theorem nx_lt (k : Nat) (h : k < 9) : nx k < 9 := by
  unfold nx
  split <;> omega
theorem HQ_rem {w : OS} {L : List HS} (h : HQ w L) (hl : L.length < 8) : HQ (remO w) (og0 w :: L) := by
  obtain ⟨h1, h2, h3, h4⟩ := h
  refine ⟨?_, ?_, ?_, fun i x hx => ?_⟩
  · rw [remO_4, List.length_cons, if_neg (by omega), h1]
  · rw [List.length_cons]; omega
  · rw [remO_3]; exact nx_lt _ h3
  · rw [remO_2, remO_3]
    match i, hx with
    | 0, hx =>
      cases hx
      have e : (nx (og3 w) + 8 - 0) % 9 = og3 w := by
        unfold nx
        split <;> omega
      rw [e]
      exact up_self
    | i + 1, hx =>
      have hx : L[i]? = some x := hx
      have hi : i < L.length := (List.getElem?_eq_some_iff.mp hx).1
      have e : (nx (og3 w) + 8 - (i + 1)) % 9 = (og3 w + 8 - i) % 9 := by
        unfold nx
        split <;> omega
      rw [e, ← h4 i x hx]
      unfold va_up
      rw [if_neg (by omega)]
/-- nothing to undo -/
theorem undo_no {w : OS} (h : HQ w []) : fX5_undo w = (1, 0, w) := by
  have e : og4 w = 0 := h.1.symm
  unfold fX5_undo
  rw [e]
  exact if_pos rfl
theorem nI_9ne {k : Nat} (h : k < 9) (h0 : k ≠ 0) : ¬ nI k = 0 := by
  rcases (show k = 1 ∨ k = 2 ∨ k = 3 ∨ k = 4 ∨ k = 5 ∨ k = 6 ∨ k = 7 ∨ k = 8 by omega) with rfl | rfl | rfl | rfl | rfl | rfl | rfl | rfl <;> decide
theorem nI_le0 {k : Nat} (h : k < 9) : nI k ≤ 0 ↔ k = 0 := by
  rcases (show k = 0 ∨ k = 1 ∨ k = 2 ∨ k = 3 ∨ k = 4 ∨ k = 5 ∨ k = 6 ∨ k = 7 ∨ k = 8 by omega) with rfl | rfl | rfl | rfl | rfl | rfl | rfl | rfl | rfl <;> decide
/-- the world after an undo -/
def undO (w : OS) : OS := osH (og2 w, pv (og3 w), og4 w - 1, og2 w (pv (og3 w))) w
theorem undo_yes {w : OS} (h3 : og3 w < 9) (h4 : og4 w ≤ 8) (h0 : og4 w ≠ 0) : fX5_undo w = (0, nI (og4 w - 1), undO w) := by
  unfold fX5_undo undO pv
  rw [if_neg (nI_9ne (by omega) h0)]
  unfold fX4_stepBack
  show ((0 : Nat), (if nI (og3 w) ≤ 0 then _ else _ : Int32 × HHS).1, osH (if nI (og3 w) ≤ 0 then _ else _ : Int32 × HHS).2 w) = _
  by_cases c : og3 w = 0
  · rw [if_pos ((nI_le0 h3).mpr c), if_pos c]
  · rw [if_neg (fun z => c ((nI_le0 h3).mp z)), if_neg c]
theorem HQ_undo {w : OS} {x : HS} {L : List HS} (h : HQ w (x :: L)) : fX5_undo w = (0, nI L.length, undO w) ∧ og0 (undO w) = x ∧ HQ (undO w) L := by
  obtain ⟨h1, h2, h3, h4⟩ := h
  rw [List.length_cons] at h1 h2
  have e3 : og2 w (pv (og3 w)) = x := by
    have e := h4 0 x rfl
    have e9 : (og3 w + 8 - 0) % 9 = pv (og3 w) := by
      unfold pv
      split <;> omega
    rw [e9] at e
    exact e
  refine ⟨?_, e3, ?_, by omega, ?_, fun i y hy => ?_⟩
  · rw [undo_yes h3 (by omega) (by omega), show og4 w - 1 = L.length by omega]
  · show L.length = og4 w - 1
    omega
  · show pv (og3 w) < 9
    unfold pv
    split <;> omega
  · have hi : i < L.length := (List.getElem?_eq_some_iff.mp hy).1
    show og2 w ((pv (og3 w) + 8 - i) % 9) = y
    have e := h4 (i + 1) y hy
    have e9 : (pv (og3 w) + 8 - i) % 9 = (og3 w + 8 - (i + 1)) % 9 := by
      unfold pv
      split <;> omega
    rw [e9]
    exact e
/-- what another hall leaves of the history -/
theorem HQ_0 {w : OS} {L : List HS} (h : HQ w L) (x : HS) : HQ (os0 x w) L := h
theorem HQ_new : HQ Onew [] := ⟨rfl, by decide, by decide, fun i x h => by cases h⟩
