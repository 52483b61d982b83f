/-! no rank so far; a hat's own chair -/
theorem HI_N {u : HS} (h : HI u) : ∃ N, N ≤ 8 ∧ h9 u = nI N := by
  have hv : vp_in (h9 u) 9 := by
    rw [vp_in_iff]
    obtain ⟨a, b⟩ := h
    rw [Int32.le_iff_toInt_le] at a b
    have e0 : (0 : Int32).toInt = 0 := by decide
    have e8 : (8 : Int32).toInt = 8 := by decide
    rw [e0] at a; rw [e8] at b
    omega
  obtain ⟨k, h1, h2, -⟩ := vp_nI hv
  exact ⟨k, by omega, h2⟩
theorem pre_self (u : HS) (x : Int32) : fX3_precedes u x x = 0 := by
  unfold fX3_precedes
  rw [if_pos rfl, if_pos rfl, if_pos (Int32.le_refl _)]
theorem cb_4 {u : HS} {N k : Nat} (hN : h9 u = nI N) (h8 : N ≤ 8) (hk : k < N) : ∀ (m j y : Nat), m + j = 8 → ∃ i, i ≤ y + (N - j) - (if j ≤ k then 1 else 0) ∧ fX3_countBefore_4 m j u (nI k) (nI y) = nI i := by
  intro m
  induction m with
  | zero =>
    intro j y hj
    exact ⟨y, by rw [if_neg (by omega)]; omega, rfl⟩
  | succ m ih =>
    intro j y hj
    rw [fX3_countBefore_4, hN]
    by_cases c : nI N ≤ nI j
    · rw [if_pos c]
      have h1 := (nI_le40 N (by omega) j (by omega)).mp c
      exact ⟨y, by rw [if_neg (by omega)]; omega, rfl⟩
    · rw [if_neg c]
      have h1 : ¬ N ≤ j := fun z => c ((nI_le40 N (by omega) j (by omega)).mpr z)
      by_cases d : fX3_precedes u (nI j) (nI k) = 0
      · rw [if_pos d]
        obtain ⟨i, h2, h3⟩ := ih (j + 1) y (by omega)
        refine ⟨i, ?_, h3⟩
        split at h2 <;> split <;> omega
      · rw [if_neg d, nI_s]
        have hne : j ≠ k := fun z => d (by rw [z]; exact pre_self _ _)
        obtain ⟨i, h2, h3⟩ := ih (j + 1) (y + 1) (by omega)
        refine ⟨i, ?_, h3⟩
        split at h2 <;> split <;> omega
theorem gb_2 {u : HS} {N : Nat} (hN : h9 u = nI N) (h8 : N ≤ 8) : ∀ (m k : Nat), m + k = 8 → fX3_guestBehind_2 m k u (nI N) = -1 := by
  intro m
  induction m with
  | zero => intro k _; rfl
  | succ m ih =>
    intro k hk
    rw [fX3_guestBehind_2, hN]
    by_cases c : nI N ≤ nI k
    · rw [if_pos c]
    · rw [if_neg c]
      have h1 : ¬ N ≤ k := fun z => c ((nI_le40 N (by omega) k (by omega)).mpr z)
      obtain ⟨i, h2, h3⟩ := cb_4 hN h8 (show k < N by omega) 8 0 0 rfl
      have h4 : fX3_countBefore u (nI k) = nI i := h3
      rw [if_pos (Nat.zero_le k)] at h2
      rw [h4, if_neg (fun z => by have := nI_inj40 i (by omega) N (by omega) z; omega)]
      exact ih (k + 1) (by omega)
theorem y_atRank {u : HS} (hi : HI u) : wv (r_guestAtRank u (h9 u)) = -1001 := by
  obtain ⟨N, h8, hN⟩ := HI_N hi
  unfold r_guestAtRank fX3_guestBehind
  rw [show fX3_guestBehind_2 8 0 u (h9 u) = -1 by rw [hN]; exact gb_2 hN h8 8 0 rfl]
  rfl
/-- the chair of a placed hat is covered by its guest -/
theorem cov_own {n : Int} {u : HS} (g : GI n u) {k c : Nat} (hk : k < 8) (hc : c < 40) (hb : Bt (h4 u k) c = true) : fX3_covererAt u (nI c) = nI k := by
  rcases cov_at u hc with ⟨_, h2⟩ | ⟨j, hj, h2, h3⟩
  · rw [h2 k hk] at hb; cases hb
  · by_cases e : j = k
    · rw [h2, e]
    · have := (and_0.mp (g.2.2.2.1 j k hj hk e)) c (by omega) h3
      rw [this] at hb; cases hb
theorem hasG {u : HS} {k : Nat} (hk : k < 8) (h : ¬ h9 u ≤ nI k) : ¬ fX3_hasGuest u (nI k) = 0 := by
  unfold fX3_hasGuest
  have h0 : ∀ k, k < 8 → ¬ nI k < 0 := by decide +kernel
  rw [if_neg (h0 k hk), if_neg h]
  decide
theorem hasC : ∀ c, c < 40 → ¬ fX3_hasChair (nI c) = 0 := by decide +kernel
theorem placed {u : HS} {k : Nat} (hk : k < 8) : fX3_hatIsPlaced u (nI k) = 0 ↔ h2 u k = -1 := by
  unfold fX3_hatIsPlaced
  rw [nI_clamp8 k hk]
  by_cases e : h2 u k = -1
  · rw [if_pos e]; exact ⟨fun _ => e, fun _ => rfl⟩
  · rw [if_neg e]; exact ⟨fun z => absurd z (by decide), fun z => absurd z e⟩
