/-! what a change does to the world -/
theorem and127 (z : Int32) : 0 ≤ (z &&& 127).toInt := by
  show 0 ≤ (z &&& 127).toBitVec.toInt
  rw [Int32.toBitVec_and]
  have h : (z.toBitVec &&& (127 : Int32).toBitVec).toNat ≤ 127 := by
    rw [BitVec.toNat_and]
    exact Nat.and_le_right
  rw [BitVec.toInt_eq_toNat_of_lt (by omega)]
  omega
theorem bc_nn (x : Int64) : 0 ≤ (fJ13_bitCount_95d88 x).toInt := by
  unfold fJ13_bitCount_95d88
  exact and127 _
theorem nI_nn : ∀ k, k ≤ 40 → 0 ≤ (nI k).toInt := by
  intro k hk
  have h : ∀ k, k < 41 → 0 ≤ (nI k).toInt := by decide +kernel
  exact h k (by omega)
/-- a change: either an exception and the world as it was, or an answer that isn't negative and the hall before in the history -/
def Chg (n : Int) (w : OS) (F : Nat × Int32 × OS) : Prop := (F.1 ≠ 0 ∧ F.2.2 = w) ∨ (F.1 = 0 ∧ 0 ≤ F.2.1.toInt ∧ ∃ x, F.2.2 = os0 x (remO w) ∧ GI n x)
theorem Chg_no {n : Int} {w : OS} {k : Nat} (h : k ≠ 0) : Chg n w (k, 0, w) := Or.inl ⟨h, rfl⟩
theorem Chg_ok {n : Int} {w : OS} {r : Int32} {x : HS} (h : 0 ≤ r.toInt) (g : GI n x) : Chg n w (0, r, os0 x (remO w)) := Or.inr ⟨rfl, h, x, rfl, g⟩
theorem vp_lt {x : Int32} {n : Nat} (h : vp_in x n) : x.toNatClampNeg < n := by
  obtain ⟨k, h1, -, h3⟩ := vp_nI h
  rw [h3]; exact h1
theorem HI_nn {u : HS} (h : HI u) : 0 ≤ (h9 u).toInt := by
  have := h.1
  rw [Int32.le_iff_toInt_le] at this
  exact this
section CHG
variable {n : Int} {w : OS}
theorem guest_fe {u : HS} {x y : Int32} (h : fX3_refusalOfGuest u x y = 0) : 0 ≤ x.toInt ∧ x.toInt ≤ 9 := by
  unfold fX3_refusalOfGuest at h
  split at h
  · exact absurd h (by decide)
  · rename_i c1
    split at h
    · exact absurd h (by decide)
    · rename_i c2
      rw [Int32.lt_iff_toInt_lt] at c1 c2
      have e0 : (0 : Int32).toInt = 0 := by decide
      have e9 : (9 : Int32).toInt = 9 := by decide
      rw [e0] at c1; rw [e9] at c2
      omega
theorem chg_addGuest (g : GI n (og0 w)) (x y : Int32) : Chg n w (fX5_addGuest w x y) := by
  unfold fX5_addGuest
  rw [og0_remO]
  split
  · exact Chg_no (by decide)
  · split
    · rename_i c
      exact Chg_ok (HI_nn g.1) (GI_welcome g (guest_ok g.1 c) (guest_fe c))
    · exact Chg_no (by decide)
theorem feather_lt {u : HS} {x : Int32} (h : fX3_refusalOfFeather u x = 0) : h0 u x.toNatClampNeg < 9 := by
  unfold fX3_refusalOfFeather at h
  split at h
  · exact absurd h (by decide)
  · split at h
    · assumption
    · exact absurd h (by decide)
theorem chg_giveFeather (g : GI n (og0 w)) (x : Int32) : Chg n w (fX5_giveFeather w x) := by
  unfold fX5_giveFeather
  rw [og0_remO]
  split
  · exact Chg_no (by decide)
  · split
    · rename_i c
      have h := GI_feather g (vp_lt (feather_ok g.1.2 c)) (feather_lt c)
      exact Chg_ok h.2 h.1
    · exact Chg_no (by decide)
theorem hat_free {u : HS} {x : Int32} {c : Nat} (hc : c < 40) (h : fX3_refusalOfHat u x (nI c) = 0) : ∀ g, g < 8 → Bt (h4 u g) c = false := by
  unfold fX3_refusalOfHat at h
  split at h
  · exact absurd h (by decide)
  · split at h
    · exact absurd h (by decide)
    · split at h
      · split at h
        · rename_i e
          rcases cov_at u hc with ⟨_, h2⟩ | ⟨g, hg, h2, _⟩
          · exact h2
          · rw [e] at h2; exact absurd h2 (m1_ne g hg)
        · exact absurd h (by decide)
      · exact absurd h (by decide)
theorem chg_placeHat (g : GI n (og0 w)) (x y : Int32) : Chg n w (fX5_placeHat w x y) := by
  unfold fX5_placeHat
  rw [og0_remO]
  split
  · exact Chg_no (by decide)
  · split
    · exact Chg_no (by decide)
    · split
      · rename_i c
        obtain ⟨i1, i2⟩ := hat_ok g.1.2 c
        obtain ⟨k, hk, rfl, -⟩ := vp_nI i2
        exact Chg_ok (bc_nn _) (GI_putHat g hk (vp_lt i1) (hat_free hk c))
      · exact Chg_no (by decide)
theorem chg_removeHat (g : GI n (og0 w)) (x : Int32) : Chg n w (fX5_removeHat w x) := by
  unfold fX5_removeHat
  rw [og0_remO]
  split
  · rename_i c
    exact Chg_ok (bc_nn _) (GI_give g (vp_lt (rh_in g.1.2 c)))
  · rename_i c
    exact Chg_no c
theorem chg_touchHat (g : GI n (og0 w)) (hn : n ≤ 1000000) (x : Int32) : Chg n w (fX5_touchHat w x) := by
  unfold fX5_touchHat
  rw [og0_remO]
  split
  · rename_i c
    refine Chg_ok ?_ (GI_idle g)
    have h1 := g.2.2.2.2.2.2 _ (vp_lt (rh_in g.1.2 c))
    have h2 := g.2.2.2.2.2.1
    show 0 ≤ (h10 (og0 w) - h3 (og0 w) x.toNatClampNeg).toInt
    rw [Int32.toInt_sub, Int.bmod_def]
    split <;> omega
  · rename_i c
    exact Chg_no c
theorem chg_leaveCoat (g : GI n (og0 w)) (x y : Int32) : Chg n w (fX5_leaveCoat w x y) := by
  unfold fX5_leaveCoat
  rw [og0_remO]
  split
  · exact Chg_no (by decide)
  · split
    · exact Chg_no (by decide)
    · split
      · rename_i c
        obtain ⟨k, hk, rfl, -⟩ := vp_nI (coat_ok g.1.2 c).2
        refine Chg_ok ?_ (GI_coat g hk)
        obtain ⟨j, hj, e⟩ := cnt_bd (og0 w) (nI k)
        show 0 ≤ (fX3_coatsOn (og0 w) (nI k)).toInt
        rw [e]
        exact nI_nn j (by omega)
      · exact Chg_no (by decide)
theorem coat_has {u : HS} {x : Int32} (h : fX3_refusalWithoutCoat u x = 0) : ¬ h5 u x.toNatClampNeg = -1 := by
  unfold fX3_refusalWithoutCoat at h
  split at h
  · exact absurd h (by decide)
  · split at h
    · exact absurd h (by decide)
    · assumption
theorem rc_0 {u : HS} {x : Int32} (h : (if fX3_refusalWithoutCoat u x = 1 then 1 else (if fX3_refusalWithoutCoat u x = 0 then 0 else 2) : Nat) = 0) : fX3_refusalWithoutCoat u x = 0 := by
  by_cases c : fX3_refusalWithoutCoat u x = 1
  · rw [if_pos c] at h; cases h
  · rw [if_neg c] at h
    by_cases d : fX3_refusalWithoutCoat u x = 0
    · exact d
    · rw [if_neg d] at h; cases h
theorem chg_takeCoat (g : GI n (og0 w)) (x : Int32) : Chg n w (fX5_takeCoat w x) := by
  unfold fX5_takeCoat
  rw [og0_remO]
  split
  · rename_i c
    have hp := GI_pull g x
    refine Chg_ok ?_ hp.1
    rw [hp.2.2]
    rcases g.2.2.2.2.1 _ (vp_lt (rc_in g.1.2 c)) with e | ⟨k, hk, e⟩
    · exact absurd e (coat_has (rc_0 c))
    · rw [e]; exact nI_nn k (by omega)
  · rename_i c
    exact Chg_no c
theorem ff_nn (u : HS) (x y : Int32) : 0 ≤ (fX3_fightFor u x y).1.toInt := by
  unfold fX3_fightFor
  split
  · show 0 ≤ (0 : Int32).toInt; decide
  · show 0 ≤ (1 : Int32).toInt; decide
theorem chg_contest (g : GI n (og0 w)) (x y : Int32) : Chg n w (fX5_contest w x y) := by
  unfold fX5_contest
  rw [og0_remO]
  split
  · exact Chg_no (by decide)
  · split
    · exact Chg_no (by decide)
    · split
      · rename_i c
        obtain ⟨i1, i2⟩ := contest_ok g.1.2 c
        obtain ⟨k, hk, rfl, -⟩ := vp_nI i2
        obtain ⟨a, ha, rfl, -⟩ := vp_nI i1
        exact Chg_ok (ff_nn _ _ _) (GI_fight g ha hk)
      · exact Chg_no (by decide)
theorem pass_bd {u : HS} {x : Int32} (h : fX3_refusalOfPass u x = 0) : 1 ≤ x.toInt ∧ x.toInt ≤ 60 := by
  unfold fX3_refusalOfPass at h
  split at h
  · exact absurd h (by decide)
  · rename_i c1
    split at h
    · rename_i c2
      rw [Int32.lt_iff_toInt_lt] at c1
      rw [Int32.le_iff_toInt_le] at c2
      have e0 : (1 : Int32).toInt = 1 := by decide
      have e9 : (60 : Int32).toInt = 60 := by decide
      rw [e0] at c1; rw [e9] at c2
      omega
    · exact absurd h (by decide)
theorem chg_pass (g : GI n (og0 w)) (hn : n ≤ 900000) (x : Int32) : Chg (n + 60) w (fX5_pass w x) := by
  unfold fX5_pass
  rw [og0_remO]
  split
  · rename_i c
    have hb := pass_bd c
    have h := GI_pass g (x := x) (m := 60) ⟨by omega, hb.2⟩ (by omega)
    exact Chg_ok h.2 h.1
  · exact Chg_no (by decide)
theorem chg_sweep (g : GI n (og0 w)) (x : Int32) : Chg n w (fX5_sweep w x) := by
  unfold fX5_sweep
  rw [og0_remO]
  split
  · obtain ⟨h1, i, h2, h3⟩ := GI_sweep g x
    refine Chg_ok ?_ h1
    rw [h3]
    exact nI_nn i (by omega)
  · exact Chg_no (by decide)
end CHG
