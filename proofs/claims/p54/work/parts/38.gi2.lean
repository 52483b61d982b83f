/-! what holds of every hall -/
def GI (n : Int) (u : HS) : Prop := HI u ∧ (∀ g, g < 8 → 0 ≤ (h0 u g).toInt ∧ (h0 u g).toInt ≤ 9) ∧ (∀ g, g < 8 → h2 u g = -1 ∨ ∃ c, c < 40 ∧ h2 u g = nI c ∧ Bt (h4 u g) c = true) ∧ (∀ g j, g < 8 → j < 8 → g ≠ j → h4 u g &&& h4 u j = 0) ∧ (∀ g, g < 8 → h5 u g = -1 ∨ ∃ c, c < 40 ∧ h5 u g = nI c) ∧ (0 ≤ (h10 u).toInt ∧ (h10 u).toInt ≤ n) ∧ (∀ g, g < 8 → 0 ≤ (h3 u g).toInt ∧ (h3 u g).toInt ≤ (h10 u).toInt)
theorem GI_mono {n m : Int} {u : HS} (h : GI n u) (hm : n ≤ m) : GI m u := by
  obtain ⟨a1, a2, a3, a4, a5, a6, a7⟩ := h
  exact ⟨a1, a2, a3, a4, a5, ⟨a6.1, Int.le_trans a6.2 hm⟩, a7⟩
theorem upd_at {f : Nat → Int32} {k : Nat} {x : Int32} : upd f k x k = x := if_pos rfl
theorem upd_ne {f : Nat → Int32} {k j : Nat} {x : Int32} (h : j ≠ k) : upd f k x j = f j := if_neg h
theorem updL_at {f : Nat → Int64} {k : Nat} {x : Int64} : vp_updL f k x k = x := if_pos rfl
theorem updL_ne {f : Nat → Int64} {k j : Nat} {x : Int64} (h : j ≠ k) : vp_updL f k x j = f j := if_neg h
theorem and_comm0 {x y : Int64} (h : x &&& y = 0) : y &&& x = 0 := by
  rw [and_0] at h ⊢
  intro j hj hy
  cases e : Bt x j
  · rfl
  · exact absurd (h j hj e) (by rw [hy]; decide)
/-- the cover of one guest changes: it meets no other, and holds the hat's own chair -/
theorem GI_cover {n : Int} {u : HS} (h : GI n u) {k : Nat} {N : Int64} {z t : Int32} (hN : ∀ g, g < 8 → g ≠ k → N &&& h4 u g = 0) (hz : z = -1 ∨ ∃ c, c < 40 ∧ z = nI c ∧ Bt N c = true) (ht : 0 ≤ t.toInt ∧ t.toInt ≤ (h10 u).toInt) : GI n (s4 (vp_updL (h4 u) k N) (s3 (upd (h3 u) k t) (s2 (upd (h2 u) k z) u))) := by
  obtain ⟨a1, a2, a3, a4, a5, a6, a7⟩ := h
  refine ⟨a1, a2, fun g hg => ?_, fun g j hg hj hne => ?_, a5, a6, fun g hg => ?_⟩
  · show upd (h2 u) k z g = -1 ∨ ∃ c, c < 40 ∧ upd (h2 u) k z g = nI c ∧ Bt (vp_updL (h4 u) k N g) c = true
    by_cases e : g = k
    · subst e; rw [upd_at, updL_at]; exact hz
    · rw [upd_ne e, updL_ne e]; exact a3 g hg
  · show vp_updL (h4 u) k N g &&& vp_updL (h4 u) k N j = 0
    by_cases e : g = k
    · subst e
      rw [updL_at, updL_ne (fun z => hne z.symm)]
      exact hN j hj (fun z => hne z.symm)
    · rw [updL_ne e]
      by_cases e2 : j = k
      · subst e2
        rw [updL_at]
        exact and_comm0 (hN g hg e)
      · rw [updL_ne e2]; exact a4 g j hg hj hne
  · show 0 ≤ (upd (h3 u) k t g).toInt ∧ (upd (h3 u) k t g).toInt ≤ (h10 u).toInt
    by_cases e : g = k
    · subst e; rw [upd_at]; exact ht
    · rw [upd_ne e]; exact a7 g hg
theorem upd_self (f : Nat → Int32) (k : Nat) : upd f k (f k) = f := by
  funext j
  by_cases e : j = k
  · subst e; exact upd_at
  · exact upd_ne e
theorem GI_putHat {n : Int} {u : HS} (h : GI n u) {x : Int32} {c : Nat} (hc : c < 40) (hx : x.toNatClampNeg < 8) (hf : ∀ g, g < 8 → Bt (h4 u g) c = false) : GI n (fX3_putHat u x (nI c)).2 := by
  have ht := h.2.2.2.2.2.1
  unfold fX3_putHat
  refine GI_cover h (k := x.toNatClampNeg) (fun g hg hne => ?_) (Or.inr ⟨c, hc, rfl, ?_⟩) ⟨ht.1, Int.le_refl _⟩
  · rw [and_0]
    intro j hj hb
    rw [Bt_or, Bt_or, Bool.or_eq_true_iff, Bool.or_eq_true_iff] at hb
    rcases hb with (hb | hb) | hb
    · rw [Bt_lsh hc hj] at hb
      have e := of_decide_eq_true hb
      subst e
      exact hf g hg
    · exact (all_at u j).mp ((and_0.mp (reach_free _ _ _ _)) j hj hb) g hg
    · exact (all_at u j).mp ((and_0.mp (reach_free _ _ _ _)) j hj hb) g hg
  · rw [Bt_or, Bt_or, Bt_lsh hc (by omega), decide_eq_true rfl]
    rfl
theorem GI_lift {n : Int} {u : HS} (h : GI n u) {x : Int32} (hx : x.toNatClampNeg < 8) : GI n (fX3_liftHat u x).2 := by
  have e : (fX3_liftHat u x).2 = s4 (vp_updL (h4 u) x.toNatClampNeg 0) (s3 (upd (h3 u) x.toNatClampNeg (h3 u x.toNatClampNeg)) (s2 (upd (h2 u) x.toNatClampNeg (-1)) u)) := by
    rw [upd_self]
    unfold fX3_liftHat
    rfl
  rw [e]
  refine GI_cover h (fun g hg hne => ?_) (Or.inl rfl) (h.2.2.2.2.2.2 _ hx)
  rw [and_0]
  intro j hj hb
  rw [Bt_0] at hb
  cases hb
/-- rows that the invariant doesn't look at -/
theorem GI_row6 {n : Int} {u : HS} (h : GI n u) (f : Nat → Int32) : GI n (s6 f u) := h
theorem GI_row5 {n : Int} {u : HS} (h : GI n u) {k : Nat} {z : Int32} (hz : z = -1 ∨ ∃ c, c < 40 ∧ z = nI c) : GI n (s5 (upd (h5 u) k z) u) := by
  obtain ⟨a1, a2, a3, a4, a5, a6, a7⟩ := h
  refine ⟨a1, a2, a3, a4, fun g hg => ?_, a6, a7⟩
  show upd (h5 u) k z g = -1 ∨ ∃ c, c < 40 ∧ upd (h5 u) k z g = nI c
  by_cases e : g = k
  · subst e; rw [upd_at]; exact hz
  · rw [upd_ne e]; exact a5 g hg
theorem pull_16 {n : Int} (x : Int32) : ∀ (m k : Nat) (v : HS) (y : Int32), GI n v → GI n (fX3_pullCoat_16 m k v x y).2 ∧ h4 (fX3_pullCoat_16 m k v x y).2 = h4 v ∧ (fX3_pullCoat_16 m k v x y).1 = y := by
  intro m
  induction m with
  | zero => intro k v y h; exact ⟨h, rfl, rfl⟩
  | succ m ih =>
    intro k v y h
    rw [fX3_pullCoat_16]
    split
    · split
      · exact ih _ _ _ h
      · exact ih _ _ _ (GI_row6 h _)
    · exact ih _ _ _ h
theorem GI_pull {n : Int} {u : HS} (h : GI n u) (x : Int32) : GI n (fX3_pullCoat u x).2 ∧ h4 (fX3_pullCoat u x).2 = h4 u ∧ (fX3_pullCoat u x).1 = h5 u x.toNatClampNeg := by
  unfold fX3_pullCoat
  exact pull_16 x 8 0 _ _ (GI_row5 h (Or.inl rfl))
theorem own_2 (u : HS) (x y : Int32) : ∀ (n k : Nat), fX3_ownerAt_2 n k u x y = -1 ∨ ∃ g, g < k + n ∧ fX3_ownerAt_2 n k u x y = nI g := by
  intro n
  induction n with
  | zero => intro k; exact Or.inl rfl
  | succ n ih =>
    intro k
    rw [fX3_ownerAt_2]
    split
    · split
      · exact Or.inr ⟨k, by omega, rfl⟩
      · rcases ih (k + 1) with h | ⟨g, h1, h2⟩
        · exact Or.inl h
        · exact Or.inr ⟨g, by omega, h2⟩
    · rcases ih (k + 1) with h | ⟨g, h1, h2⟩
      · exact Or.inl h
      · exact Or.inr ⟨g, by omega, h2⟩
theorem own_at (u : HS) (x y : Int32) : fX3_ownerAt u x y = -1 ∨ ∃ g, g < 8 ∧ fX3_ownerAt u x y = nI g := by
  rcases own_2 u x y 8 0 with h | ⟨g, h1, h2⟩
  · exact Or.inl h
  · exact Or.inr ⟨g, by omega, h2⟩
theorem nI_clamp8 : ∀ g, g < 8 → (nI g).toNatClampNeg = g := by decide +kernel
theorem m1_ne : ∀ g, g < 8 → ¬ (-1 : Int32) = nI g := by decide +kernel
theorem offer_2 {n : Int} {c : Nat} (hc : c < 40) : ∀ (m k : Nat) (v : HS), GI n v → (∀ g, g < 8 → Bt (h4 v g) c = false) → GI n (fX3_offerChair_2 m k v (nI c)) := by
  intro m
  induction m with
  | zero => intro k v h _; exact h
  | succ m ih =>
    intro k v h hf
    rw [fX3_offerChair_2]
    rcases own_at v (nI c) 0 with e | ⟨g, hg, e⟩
    · rw [if_pos e]; exact h
    · have hp := GI_pull h (nI g)
      split
      · exact h
      · rw [e]
        split
        · have hq : GI n (fX3_putHat (fX3_pullCoat v (nI g)).2 (nI g) (nI c)).2 := GI_putHat hp.1 hc (by rw [nI_clamp8 g hg]; exact hg) (by rw [hp.2.1]; exact hf)
          exact hq
        · exact ih _ _ hp.1 (by show ∀ g_1, g_1 < 8 → Bt (h4 (fX3_pullCoat v (nI g)).2 g_1) c = false; rw [hp.2.1]; exact hf)
theorem offers_2 {n : Int} (x : Int64) : ∀ (m k : Nat) (v : HS), m + k = 40 → GI n v → GI n (fX3_offerChairs_2 m k v x) := by
  intro m
  induction m with
  | zero => intro k v _ h; exact h
  | succ m ih =>
    intro k v hk h
    rw [fX3_offerChairs_2]
    split
    · exact ih _ _ (by omega) h
    · split
      · rename_i hcv
        refine ih _ _ (by omega) ?_
        unfold fX3_offerChair
        refine offer_2 (by omega) _ _ _ h ?_
        rcases cov_at v (show k < 40 by omega) with ⟨_, h2⟩ | ⟨g, hg, h2, _⟩
        · exact h2
        · rw [hcv] at h2
          exact absurd h2 (m1_ne g hg)
      · exact ih _ _ (by omega) h
theorem GI_offers {n : Int} {u : HS} (h : GI n u) (x : Int64) : GI n (fX3_offerChairs u x) := by
  unfold fX3_offerChairs
  exact offers_2 x 40 0 u rfl h
theorem GI_give {n : Int} {u : HS} (h : GI n u) {x : Int32} (hx : x.toNatClampNeg < 8) : GI n (fX3_giveChairsBack u x).2 := by
  unfold fX3_giveChairsBack
  exact GI_offers (GI_lift h hx) _
