/-! what thrown asks of each guest and chair -/
section THG
variable {n : Int} {h : HS} {w : OS} {k c : Nat}
theorem rq_0 (hg : ¬ fX3_hasGuest h (nI k) = 0) : qrequireGuest h (nI k) = 0 := by unfold qrequireGuest; exact if_neg hg
theorem z_feathers (hk : k < 8) (hg : ¬ fX3_hasGuest h (nI k) = 0) : wv (r_feathers h (nI k)) = h0 h k := by
  unfold r_feathers
  rw [rq_0 hg, if_pos rfl, nI_clamp8 k hk]
  rfl
theorem z_isPlaced (hk : k < 8) (hg : ¬ fX3_hasGuest h (nI k) = 0) : wb (r_isPlaced h (nI k)) = if h2 h k = -1 then 0 else 1 := by
  unfold r_isPlaced
  rw [rq_0 hg, if_pos rfl]
  show (if fX3_hatIsPlaced h (nI k) = 0 then (0 : Int32) else 1) = _
  by_cases e : h2 h k = -1
  · rw [if_pos e, if_pos ((placed hk).mpr e)]
  · rw [if_neg e, if_neg (fun z => e ((placed hk).mp z))]
theorem z_hasCoat (hk : k < 8) (hg : ¬ fX3_hasGuest h (nI k) = 0) : wb (r_hasCoatLeft h (nI k)) = if h5 h k = -1 then 0 else 1 := by
  unfold r_hasCoatLeft
  rw [rq_0 hg, if_pos rfl, nI_clamp8 k hk]
  split <;> rfl
theorem z_wh (hk : k < 8) (hg : ¬ fX3_hasGuest h (nI k) = 0) : fX3_refusalWithoutHat h (nI k) = if h2 h k = -1 then 2 else 0 := by
  unfold fX3_refusalWithoutHat
  rw [if_neg hg]
  by_cases e : h2 h k = -1
  · rw [if_pos e, if_pos ((placed hk).mpr e)]
  · rw [if_neg e, if_neg (fun z => e ((placed hk).mp z))]
theorem z_wc (hk : k < 8) (hg : ¬ fX3_hasGuest h (nI k) = 0) : fX3_refusalWithoutCoat h (nI k) = if h5 h k = -1 then 2 else 0 := by
  unfold fX3_refusalWithoutCoat
  rw [if_neg hg, nI_clamp8 k hk]
theorem z_rp (hk : k < 8) (hg : ¬ fX3_hasGuest h (nI k) = 0) : qrequirePlacedHat h (nI k) = if h2 h k = -1 then 2 else 0 := by
  unfold qrequirePlacedHat
  rw [z_wh hk hg]
  by_cases e : h2 h k = -1
  · rw [if_pos e, if_pos e]; rfl
  · rw [if_neg e, if_neg e]; rfl
theorem z_rl (hk : k < 8) (hg : ¬ fX3_hasGuest h (nI k) = 0) : qrequireLeftCoat h (nI k) = if h5 h k = -1 then 2 else 0 := by
  unfold qrequireLeftCoat
  rw [z_wc hk hg]
  by_cases e : h5 h k = -1
  · rw [if_pos e, if_pos e]; rfl
  · rw [if_neg e, if_neg e]; rfl
theorem z_hatChair (hk : k < 8) (hg : ¬ fX3_hasGuest h (nI k) = 0) : wv (r_hatChair h (nI k)) = if h2 h k = -1 then -1002 else h2 h k := by
  unfold r_hatChair
  rw [z_rp hk hg]
  by_cases e : h2 h k = -1
  · rw [if_pos e, if_pos e]; rfl
  · rw [if_neg e, if_neg e, nI_clamp8 k hk]; rfl
theorem z_idle (hk : k < 8) (hg : ¬ fX3_hasGuest h (nI k) = 0) (e : h2 h k = -1) : wv (r_idleMinutes h (nI k)) = -1002 := by
  unfold r_idleMinutes
  rw [z_rp hk hg, if_pos e]; rfl
theorem z_coatChair (hk : k < 8) (hg : ¬ fX3_hasGuest h (nI k) = 0) (e : h5 h k = -1) : wv (r_coatChair h (nI k)) = -1002 := by
  unfold r_coatChair
  rw [z_rl hk hg, if_pos e]; rfl
theorem z_give (hk : k < 8) (hg : ¬ fX3_hasGuest (og0 w) (nI k) = 0) (e : h0 (og0 w) k = 9) : wrp (fX5_giveFeather w (nI k)) = (-1002, w) := by
  unfold fX5_giveFeather
  have r : fX3_refusalOfFeather (og0 w) (nI k) = 2 := by
    unfold fX3_refusalOfFeather
    rw [if_neg hg, nI_clamp8 k hk, e]; rfl
  rw [r]; rfl
theorem z_remove (hk : k < 8) (hg : ¬ fX3_hasGuest (og0 w) (nI k) = 0) (e : h2 (og0 w) k = -1) : wrp (fX5_removeHat w (nI k)) = (-1002, w) := by
  unfold fX5_removeHat
  rw [qrequirePlacedHat_eq, z_rp hk hg, if_pos e]; rfl
theorem z_touch (hk : k < 8) (hg : ¬ fX3_hasGuest (og0 w) (nI k) = 0) (e : h2 (og0 w) k = -1) : wrp (fX5_touchHat w (nI k)) = (-1002, w) := by
  unfold fX5_touchHat
  rw [qrequirePlacedHat_eq, z_rp hk hg, if_pos e]; rfl
theorem z_take (hk : k < 8) (hg : ¬ fX3_hasGuest (og0 w) (nI k) = 0) (e : h5 (og0 w) k = -1) : wrp (fX5_takeCoat w (nI k)) = (-1002, w) := by
  unfold fX5_takeCoat
  rw [qrequireLeftCoat_eq, z_rl hk hg, if_pos e]; rfl
theorem z_rh (hk : k < 8) (hc : c < 40) (hg : ¬ fX3_hasGuest h (nI k) = 0) : fX3_refusalOfHat h (nI k) (nI c) = if h2 h k = -1 then (if fX3_covererAt h (nI c) = -1 then 0 else 3) else 2 := by
  unfold fX3_refusalOfHat
  rw [if_neg hg, if_neg (hasC c hc)]
  by_cases e : h2 h k = -1
  · rw [if_pos e, if_pos ((placed hk).mpr e)]
  · rw [if_neg e, if_neg (fun z => e ((placed hk).mp z))]
theorem z_place2 (hk : k < 8) (hc : c < 40) (hg : ¬ fX3_hasGuest (og0 w) (nI k) = 0) (e : ¬ h2 (og0 w) k = -1) : wrp (fX5_placeHat w (nI k) (nI c)) = (-1002, w) := by
  unfold fX5_placeHat
  rw [z_rh hk hc hg, if_neg e]; rfl
theorem z_place3 (hk : k < 8) (hc : c < 40) (hg : ¬ fX3_hasGuest (og0 w) (nI k) = 0) (e : h2 (og0 w) k = -1) (v : ¬ fX3_covererAt (og0 w) (nI c) = -1) : wrp (fX5_placeHat w (nI k) (nI c)) = (-1003, w) := by
  unfold fX5_placeHat
  rw [z_rh hk hc hg, if_pos e, if_neg v]; rfl
theorem z_leave2 (hk : k < 8) (hc : c < 40) (hg : ¬ fX3_hasGuest (og0 w) (nI k) = 0) (e : ¬ h5 (og0 w) k = -1) : wrp (fX5_leaveCoat w (nI k) (nI c)) = (-1002, w) := by
  have r : fX3_refusalOfCoat (og0 w) (nI k) (nI c) = 2 := by
    unfold fX3_refusalOfCoat
    rw [if_neg hg, if_neg (hasC c hc), nI_clamp8 k hk, if_neg e]
  unfold fX5_leaveCoat
  rw [r]; rfl
theorem z_leave3 (hk : k < 8) (hc : c < 40) (hg : ¬ fX3_hasGuest (og0 w) (nI k) = 0) (e : h5 (og0 w) k = -1) (v : fX3_covererAt (og0 w) (nI c) = -1 ∨ fX3_covererAt (og0 w) (nI c) = nI k) : wrp (fX5_leaveCoat w (nI k) (nI c)) = (-1003, w) := by
  have r : fX3_refusalOfCoat (og0 w) (nI k) (nI c) = 3 := by
    unfold fX3_refusalOfCoat
    rw [if_neg hg, if_neg (hasC c hc), nI_clamp8 k hk, if_pos e]
    rcases v with v | v
    · rw [if_pos v]
    · rw [if_neg (fun z => m1_ne k hk (z.symm.trans v)), if_pos v]
  unfold fX5_leaveCoat
  rw [r]; rfl
theorem z_contest2 (hc : c < 40) (hg : ¬ fX3_hasGuest (og0 w) (nI k) = 0) (v : fX3_covererAt (og0 w) (nI c) = -1) : wrb (fX5_contest w (nI k) (nI c)) = (-1002, w) := by
  have r : fX3_refusalOfContest (og0 w) (nI k) (nI c) = 2 := by
    unfold fX3_refusalOfContest
    rw [if_neg hg, if_neg (hasC c hc), if_pos v]
  unfold fX5_contest
  rw [r]; rfl
theorem z_contest3 (hk : k < 8) (hc : c < 40) (hg : ¬ fX3_hasGuest (og0 w) (nI k) = 0) (e : ¬ h2 (og0 w) k = -1) (v : ¬ fX3_covererAt (og0 w) (nI c) = -1) : wrb (fX5_contest w (nI k) (nI c)) = (-1003, w) := by
  have r : fX3_refusalOfContest (og0 w) (nI k) (nI c) = 3 := by
    unfold fX3_refusalOfContest
    rw [if_neg hg, if_neg (hasC c hc), if_neg v, if_neg (fun z => e ((placed hk).mp z))]
  unfold fX5_contest
  rw [r]; rfl
end THG
