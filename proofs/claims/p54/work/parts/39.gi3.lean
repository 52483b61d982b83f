/-! the invariant under the other changes -/
theorem GI_row0 {n : Int} {u : HS} (h : GI n u) {k : Nat} {z : Int32} (hz : 0 ≤ z.toInt ∧ z.toInt ≤ 9) : GI n (s0 (upd (h0 u) k z) u) := by
  obtain ⟨a1, a2, a3, a4, a5, a6, a7⟩ := h
  refine ⟨a1, fun g hg => ?_, a3, a4, a5, a6, a7⟩
  show 0 ≤ (upd (h0 u) k z g).toInt ∧ (upd (h0 u) k z g).toInt ≤ 9
  by_cases e : g = k
  · subst e; rw [upd_at]; exact hz
  · rw [upd_ne e]; exact a2 g hg
theorem mask_lo : ∀ c, c < 40 → ∀ a, a < 40 → Bt ((((lsh 1 (nI c)) - 1) ^^^ (-1)) ^^^ (-1)) a = decide (a < c) := by decide +kernel
theorem mask_hi : ∀ c, c < 40 → ∀ a, a < 40 → Bt ((((lsh 1 (nI c)) - 1) ||| (lsh 1 (nI c))) ^^^ (-1)) a = decide (c < a) := by decide +kernel
theorem nI_le40 : ∀ a, a < 40 → ∀ c, c < 40 → (nI a ≤ nI c ↔ a ≤ c) := by decide +kernel
theorem nI_inj40 : ∀ a, a < 40 → ∀ c, c < 40 → nI a = nI c → a = c := by decide +kernel
theorem cover_self (u : HS) (k : Nat) (N : Int64) : s4 (vp_updL (h4 u) k N) u = s4 (vp_updL (h4 u) k N) (s3 (upd (h3 u) k (h3 u k)) (s2 (upd (h2 u) k (h2 u k)) u)) := by
  rw [upd_self, upd_self]
theorem sub_0 {x y N : Int64} (h : x &&& y = 0) : (x &&& N) &&& y = 0 := by
  rw [and_0] at h ⊢
  intro j hj hb
  rw [Bt_and] at hb
  exact h j hj (Bool.and_eq_true_iff.mp hb).1
/-- a guest loses a chair of his cover: none covers it any more -/
theorem GI_lose {n : Int} {u : HS} (h : GI n u) {g c : Nat} (hg : g < 8) (hc : c < 40) (hb : Bt (h4 u g) c = true) : GI n (fX3_loseChair u (nI g) (nI c)).2 ∧ ∀ j, j < 8 → Bt (h4 (fX3_loseChair u (nI g) (nI c)).2 j) c = false := by
  have hk : (nI g).toNatClampNeg = g := nI_clamp8 g hg
  have ho : ∀ j, j < 8 → j ≠ g → Bt (h4 u j) c = false := fun j hj hne => (and_0.mp (h.2.2.2.1 g j hg hj (fun z => hne z.symm))) c (by omega) hb
  have h3b := h.2.2.2.2.2.2 g hg
  have hpl := h.2.2.1 g hg
  unfold fX3_loseChair
  rw [hk]
  split
  · refine ⟨GI_lift h (by rw [hk]; exact hg), fun j hj => ?_⟩
    show Bt (vp_updL (h4 u) (nI g).toNatClampNeg 0 j) c = false
    rw [hk]
    by_cases e : j = g
    · subst e; rw [updL_at]; exact Bt_0 c
    · rw [updL_ne e]; exact ho j hj e
  · rename_i hne
    split
    · rename_i hle
      refine ⟨?_, fun j hj => ?_⟩
      · show GI n (s4 (vp_updL (h4 u) g _) u)
        rw [cover_self]
        refine GI_cover h (fun j hj e => sub_0 (h.2.2.2.1 g j hg hj (fun z => e z.symm))) ?_ h3b
        rcases hpl with e | ⟨a, ha, e, hba⟩
        · exact Or.inl e
        · refine Or.inr ⟨a, ha, e, ?_⟩
          rw [e] at hle hne
          have h1 := (nI_le40 a ha c hc).mp hle
          have h2 : a ≠ c := fun z => hne (by rw [z])
          rw [Bt_and, hba, mask_lo c hc a ha, decide_eq_true (by omega)]
          rfl
      · show Bt (vp_updL (h4 u) g _ j) c = false
        by_cases e : j = g
        · subst e; rw [updL_at, Bt_and, mask_lo c hc c hc, decide_eq_false (Nat.lt_irrefl c), Bool.and_false]
        · rw [updL_ne e]; exact ho j hj e
    · rename_i hle
      refine ⟨?_, fun j hj => ?_⟩
      · show GI n (s4 (vp_updL (h4 u) g _) u)
        rw [cover_self]
        refine GI_cover h (fun j hj e => sub_0 (h.2.2.2.1 g j hg hj (fun z => e z.symm))) ?_ h3b
        rcases hpl with e | ⟨a, ha, e, hba⟩
        · exact Or.inl e
        · refine Or.inr ⟨a, ha, e, ?_⟩
          rw [e] at hle
          have h1 : ¬ a ≤ c := fun z => hle ((nI_le40 a ha c hc).mpr z)
          rw [Bt_and, hba, mask_hi c hc a ha, decide_eq_true (by omega)]
          rfl
      · show Bt (vp_updL (h4 u) g _ j) c = false
        by_cases e : j = g
        · subst e; rw [updL_at, Bt_and, mask_hi c hc c hc, decide_eq_false (Nat.lt_irrefl c), Bool.and_false]
        · rw [updL_ne e]; exact ho j hj e
theorem sub_i {a b : Int32} (ha : 0 ≤ a.toInt ∧ a.toInt ≤ 9) (hb : 0 ≤ b.toInt ∧ b.toInt ≤ 9) : (a - b).toInt = a.toInt - b.toInt := by
  rw [Int32.toInt_sub, Int.bmod_def]
  split <;> omega
theorem GI_fight {n : Int} {u : HS} (h : GI n u) {a c : Nat} (ha : a < 8) (hc : c < 40) : GI n (fX3_fightFor u (nI a) (nI c)).2 := by
  have hk : (nI a).toNatClampNeg = a := nI_clamp8 a ha
  have hfa := h.2.1 a ha
  have e0 : (0 : Int32).toInt = 0 := by decide
  have e1 : (1 : Int32).toInt = 1 := by decide
  unfold fX3_fightFor
  rw [hk]
  split
  · refine GI_row0 h ?_
    split
    · rename_i hlt
      rw [Int32.lt_iff_toInt_lt, e0] at hlt
      have hs : (h0 u a - 1).toInt = (h0 u a).toInt - 1 := by rw [sub_i hfa ⟨by rw [e1]; omega, by rw [e1]; omega⟩, e1]
      rw [hs] at hlt ⊢
      omega
    · rw [e0]; omega
  · rename_i hst
    rcases cov_at u hc with ⟨e, _⟩ | ⟨g, hg, e, hb⟩
    · rw [e] at hst
      exact absurd (show fX3_isStronger u (nI a) (-1) = 0 from if_pos rfl) hst
    · rw [e, nI_clamp8 g hg]
      rw [e] at hst
      have hfg := h.2.1 g hg
      have hgt : ¬ h0 u a ≤ h0 u g := by
        intro z
        refine hst ?_
        unfold fX3_isStronger
        rw [hk, nI_clamp8 g hg, if_pos z]
        split <;> rfl
      rw [Int32.le_iff_toInt_le] at hgt
      have h5 : GI n (s0 (upd (h0 u) a (h0 u a - h0 u g)) u) := GI_row0 h (by rw [sub_i hfa hfg]; omega)
      obtain ⟨l1, l2⟩ := GI_lose h5 hg hc hb
      have hp := GI_putHat l1 (x := nI a) hc (by rw [hk]; exact ha) l2
      refine GI_offers ?_ _
      exact hp
theorem sweep_8 {n : Int} (x : Int32) : ∀ (m k : Nat) (v : HS) (y : Int64) (j : Nat), m + k = 8 → GI n v → GI n (fX3_sweepHats_8 m k v x y (nI j)).2 ∧ ∃ i, i ≤ j + m ∧ (fX3_sweepHats_8 m k v x y (nI j)).1 = nI i := by
  intro m
  induction m with
  | zero =>
    intro k v y j hk h
    have h1 : GI n (s11 (h11 v + nI j) v) := h
    exact ⟨GI_offers h1 y, j, Nat.le_refl _, rfl⟩
  | succ m ih =>
    intro k v y j hk h
    rw [fX3_sweepHats_8]
    split
    · obtain ⟨g1, i, g2, g3⟩ := ih (k + 1) v y j (by omega) h
      exact ⟨g1, i, by omega, g3⟩
    · split
      · obtain ⟨g1, i, g2, g3⟩ := ih (k + 1) v y j (by omega) h
        exact ⟨g1, i, by omega, g3⟩
      · rw [nI_s]
        obtain ⟨g1, i, g2, g3⟩ := ih (k + 1) (fX3_liftHat v (nI k)).2 (y ||| (fX3_liftHat v (nI k)).1) (j + 1) (by omega) (GI_lift h (by rw [nI_clamp8 k (by omega)]; omega))
        exact ⟨g1, i, by omega, g3⟩
theorem GI_sweep {n : Int} {u : HS} (h : GI n u) (x : Int32) : GI n (fX3_sweepHats u x).2 ∧ ∃ i, i ≤ 8 ∧ (fX3_sweepHats u x).1 = nI i := by
  unfold fX3_sweepHats
  obtain ⟨g1, i, g2, g3⟩ := sweep_8 x 8 0 u 0 0 rfl h
  exact ⟨g1, i, by omega, g3⟩
theorem GI_coat {n : Int} {u : HS} (h : GI n u) {x : Int32} {c : Nat} (hc : c < 40) : GI n (fX3_putCoat u x (nI c)).2 := GI_row5 h (Or.inr ⟨c, hc, rfl⟩)
theorem GI_idle {n : Int} {u : HS} (h : GI n u) {x : Int32} : GI n (fX3_startIdleTimeAgain u x).2 := by
  obtain ⟨a1, a2, a3, a4, a5, a6, a7⟩ := h
  refine ⟨a1, a2, a3, a4, a5, a6, fun g hg => ?_⟩
  show 0 ≤ (upd (h3 u) x.toNatClampNeg (h10 u) g).toInt ∧ (upd (h3 u) x.toNatClampNeg (h10 u) g).toInt ≤ (h10 u).toInt
  by_cases e : g = x.toNatClampNeg
  · subst e; rw [upd_at]; exact ⟨a6.1, Int.le_refl _⟩
  · rw [upd_ne e]; exact a7 g hg
theorem GI_feather {n : Int} {u : HS} (h : GI n u) {x : Int32} (hx : x.toNatClampNeg < 8) (hl : h0 u x.toNatClampNeg < 9) : GI n (fX3_gainFeather u x).2 ∧ 0 ≤ ((fX3_gainFeather u x).1).toInt := by
  have h1 := h.2.1 _ hx
  have e9 : (9 : Int32).toInt = 9 := by decide
  have e1 : (1 : Int32).toInt = 1 := by decide
  rw [Int32.lt_iff_toInt_lt, e9] at hl
  have hs : (h0 u x.toNatClampNeg + 1).toInt = (h0 u x.toNatClampNeg).toInt + 1 := by
    rw [Int32.toInt_add, e1, Int.bmod_def]
    split <;> omega
  refine ⟨GI_row0 h (by rw [hs]; omega), ?_⟩
  show 0 ≤ (upd (h0 u) x.toNatClampNeg (h0 u x.toNatClampNeg + 1) x.toNatClampNeg).toInt
  rw [upd_at, hs]
  omega
theorem GI_pass {n : Int} {u : HS} (h : GI n u) {x : Int32} {m : Int} (hx : 0 ≤ x.toInt ∧ x.toInt ≤ m) (hn : n + m ≤ 1000000) : GI (n + m) (fX3_letPass u x).2 ∧ 0 ≤ ((fX3_letPass u x).1).toInt := by
  obtain ⟨a1, a2, a3, a4, a5, a6, a7⟩ := h
  have hs : (h10 u + x).toInt = (h10 u).toInt + x.toInt := by
    rw [Int32.toInt_add, Int.bmod_def]
    split <;> omega
  refine ⟨⟨a1, a2, a3, a4, a5, ?_, fun g hg => ?_⟩, ?_⟩
  · show 0 ≤ (h10 u + x).toInt ∧ (h10 u + x).toInt ≤ n + m
    rw [hs]; omega
  · show 0 ≤ (h3 u g).toInt ∧ (h3 u g).toInt ≤ (h10 u + x).toInt
    have := a7 g hg
    rw [hs]; omega
  · show 0 ≤ (h10 u + x).toInt
    rw [hs]; omega
theorem GI_welcome {n : Int} {u : HS} (h : GI n u) {x y : Int32} (hw : vp_in (h9 u) 8) (hx : 0 ≤ x.toInt ∧ x.toInt ≤ 9) : GI n (fX3_welcome u x y).2 := by
  have h5 : GI n (s0 (upd (h0 u) (h9 u).toNatClampNeg x) u) := GI_row0 h hx
  obtain ⟨a1, a2, a3, a4, a5, a6, a7⟩ := h5
  exact ⟨HI_welcome (x := x) (y := y) a1 hw, a2, a3, a4, a5, a6, a7⟩
