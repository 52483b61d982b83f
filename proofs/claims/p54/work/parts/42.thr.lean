/-! calls that throw, whatever the hall -/
theorem hg_n (u : HS) : fX3_hasGuest u (h9 u) = 0 := by
  unfold fX3_hasGuest
  split
  · rfl
  · exact if_pos (Int32.le_refl _)
theorem hg_m (u : HS) : fX3_hasGuest u (-1) = 0 := by
  unfold fX3_hasGuest
  exact if_pos (by decide)
theorem hc_40 : fX3_hasChair 40 = 0 := by decide +kernel
theorem hc_m : fX3_hasChair (-1) = 0 := by decide +kernel
theorem rq_n (h : HS) : qrequireGuest h (h9 h) = 1 := by unfold qrequireGuest; exact if_pos (hg_n h)
theorem rq_m (h : HS) : qrequireGuest h (-1) = 1 := by unfold qrequireGuest; exact if_pos (hg_m h)
theorem wh_n (h : HS) : fX3_refusalWithoutHat h (h9 h) = 1 := by unfold fX3_refusalWithoutHat; exact if_pos (hg_n h)
theorem wc_n (h : HS) : fX3_refusalWithoutCoat h (h9 h) = 1 := by unfold fX3_refusalWithoutCoat; exact if_pos (hg_n h)
theorem rp_n (h : HS) : qrequirePlacedHat h (h9 h) = 1 := by unfold qrequirePlacedHat; exact if_pos (wh_n h)
theorem rl_n (h : HS) : qrequireLeftCoat h (h9 h) = 1 := by unfold qrequireLeftCoat; exact if_pos (wc_n h)
theorem rch_40 : fX5_requireChair 40 = 1 := by decide +kernel
theorem rch_m : fX5_requireChair (-1) = 1 := by decide +kernel
theorem rro_4 : fX5_requireRow 4 = 1 := by decide +kernel
theorem rro_m : fX5_requireRow (-1) = 1 := by decide +kernel
section THR
variable (h : HS) (w : OS)
theorem y_feathers : wv (r_feathers h (h9 h)) = -1001 := by unfold r_feathers; rw [rq_n]; rfl
theorem y_brim : wv (r_brim h (-1)) = -1001 := by unfold r_brim; rw [rq_m]; rfl
theorem y_isPlaced : wb (r_isPlaced h (h9 h)) = -1001 := by unfold r_isPlaced; rw [rq_n]; rfl
theorem y_hatChair : wv (r_hatChair h (h9 h)) = -1001 := by unfold r_hatChair; rw [rp_n]; rfl
theorem y_coverSize : wv (r_coverSize h (h9 h)) = -1001 := by unfold r_coverSize; rw [rq_n]; rfl
theorem y_idle : wv (r_idleMinutes h (h9 h)) = -1001 := by unfold r_idleMinutes; rw [rp_n]; rfl
theorem y_hasCoat : wb (r_hasCoatLeft h (h9 h)) = -1001 := by unfold r_hasCoatLeft; rw [rq_n]; rfl
theorem y_coatChair : wv (r_coatChair h (h9 h)) = -1001 := by unfold r_coatChair; rw [rl_n]; rfl
theorem y_coatCount : wv (r_coatCount h 40) = -1001 := by unfold r_coatCount; rw [rch_40]; rfl
theorem y_coatOwner : wv (r_coatOwner h (-1) 0) = -1001 := by unfold r_coatOwner; rw [rch_m]; rfl
theorem y_next : wv (r_nextClaimant h 40) = -1001 := by unfold r_nextClaimant; rw [rch_40]; rfl
theorem y_isCovered : wb (r_isCovered h 40) = -1001 := by unfold r_isCovered; rw [rch_40]; rfl
theorem y_coverer : wv (r_covererOf h (-1)) = -1001 := by unfold r_covererOf; rw [rch_m]; rfl
theorem y_longest : wv (r_longestFreeRun h 4) = -1001 := by unfold r_longestFreeRun; rw [rro_4]; rfl
theorem rg_10 : fX3_refusalOfGuest h 10 0 = 1 := by unfold fX3_refusalOfGuest; rw [if_neg (by decide), if_pos (by decide)]
theorem rg_3 : fX3_refusalOfGuest h 0 3 = 1 := by unfold fX3_refusalOfGuest; rw [if_neg (by decide), if_neg (by decide), if_neg (by decide), if_neg (by decide)]
theorem rg_m : fX3_refusalOfGuest h (-1) 0 = 1 := by unfold fX3_refusalOfGuest; rw [if_pos (by decide)]
theorem rg_8 (h8 : ¬ h9 h < 8) : fX3_refusalOfGuest h 0 0 = 2 := by unfold fX3_refusalOfGuest; rw [if_neg (by decide), if_neg (by decide), if_neg (by decide), if_pos (by decide), if_neg h8]
theorem y_add10 : wrp (fX5_addGuest w 10 0) = (-1001, w) := by unfold fX5_addGuest; rw [rg_10]; rfl
theorem y_add3 : wrp (fX5_addGuest w 0 3) = (-1001, w) := by unfold fX5_addGuest; rw [rg_3]; rfl
theorem y_addm : wrp (fX5_addGuest w (-1) 0) = (-1001, w) := by unfold fX5_addGuest; rw [rg_m]; rfl
theorem y_add8 (h8 : ¬ h9 (og0 w) < 8) : wrp (fX5_addGuest w 0 0) = (-1002, w) := by unfold fX5_addGuest; rw [rg_8 _ h8]; rfl
theorem rf_n : fX3_refusalOfFeather h (h9 h) = 1 := by unfold fX3_refusalOfFeather; exact if_pos (hg_n h)
theorem y_give : wrp (fX5_giveFeather w (h9 (og0 w))) = (-1001, w) := by unfold fX5_giveFeather; rw [rf_n]; rfl
theorem rh_n (c : Int32) : fX3_refusalOfHat h (h9 h) c = 1 := by unfold fX3_refusalOfHat; exact if_pos (hg_n h)
theorem rh_c (g c : Int32) (hc : fX3_hasChair c = 0) : fX3_refusalOfHat h g c = 1 := by unfold fX3_refusalOfHat; rw [if_pos hc]; split <;> rfl
theorem y_place (c : Int32) : wrp (fX5_placeHat w (h9 (og0 w)) c) = (-1001, w) := by unfold fX5_placeHat; rw [rh_n]; rfl
theorem y_placec (g c : Int32) (hc : fX3_hasChair c = 0) : wrp (fX5_placeHat w g c) = (-1001, w) := by unfold fX5_placeHat; rw [rh_c _ _ _ hc]; rfl
theorem y_remove : wrp (fX5_removeHat w (h9 (og0 w))) = (-1001, w) := by unfold fX5_removeHat; rw [qrequirePlacedHat_eq, rp_n]; rfl
theorem y_touch : wrp (fX5_touchHat w (h9 (og0 w))) = (-1001, w) := by unfold fX5_touchHat; rw [qrequirePlacedHat_eq, rp_n]; rfl
theorem rk_n (c : Int32) : fX3_refusalOfCoat h (h9 h) c = 1 := by unfold fX3_refusalOfCoat; exact if_pos (hg_n h)
theorem rk_c (g c : Int32) (hc : fX3_hasChair c = 0) : fX3_refusalOfCoat h g c = 1 := by unfold fX3_refusalOfCoat; rw [if_pos hc]; split <;> rfl
theorem y_leave (c : Int32) : wrp (fX5_leaveCoat w (h9 (og0 w)) c) = (-1001, w) := by unfold fX5_leaveCoat; rw [rk_n]; rfl
theorem y_leavec (g c : Int32) (hc : fX3_hasChair c = 0) : wrp (fX5_leaveCoat w g c) = (-1001, w) := by unfold fX5_leaveCoat; rw [rk_c _ _ _ hc]; rfl
theorem y_take : wrp (fX5_takeCoat w (h9 (og0 w))) = (-1001, w) := by unfold fX5_takeCoat; rw [qrequireLeftCoat_eq, rl_n]; rfl
theorem rt_n (c : Int32) : fX3_refusalOfContest h (h9 h) c = 1 := by unfold fX3_refusalOfContest; exact if_pos (hg_n h)
theorem rt_c (g c : Int32) (hc : fX3_hasChair c = 0) : fX3_refusalOfContest h g c = 1 := by unfold fX3_refusalOfContest; rw [if_pos hc]; split <;> rfl
theorem y_contest (c : Int32) : wrb (fX5_contest w (h9 (og0 w)) c) = (-1001, w) := by unfold fX5_contest; rw [rt_n]; rfl
theorem y_contestc (g c : Int32) (hc : fX3_hasChair c = 0) : wrb (fX5_contest w g c) = (-1001, w) := by unfold fX5_contest; rw [rt_c _ _ _ hc]; rfl
theorem y_would (g c : Int32) (hd : fX3_refusalOfContest (og0 w) g c = 1) : wrb (fX5_wouldWin w g c) = (-1001, w) := by unfold fX5_wouldWin; rw [hd]; rfl
theorem y_byTime : wrp (fX5_nextClaimantByTime w (-1)) = (-1001, w) := by unfold fX5_nextClaimantByTime; rw [rch_m]; rfl
theorem y_byMask : wrp (fX5_longestFreeRunByMask w (-1)) = (-1001, w) := by unfold fX5_longestFreeRunByMask; rw [rro_m]; rfl
theorem y_describe : wrp (fX5_describeRow w 4) = (-1001, w) := by unfold fX5_describeRow; rw [rro_4]; rfl
theorem y_pass (x : Int32) (hx : fX3_refusalOfPass (og0 w) x = 1) : wrp (fX5_pass w x) = (-1001, w) := by unfold fX5_pass; rw [hx]; rfl
theorem y_pass0 : wrp (fX5_pass w 0) = (-1001, w) := y_pass w 0 (by unfold fX3_refusalOfPass; exact if_pos (by decide))
theorem y_pass61 : wrp (fX5_pass w 61) = (-1001, w) := y_pass w 61 (by unfold fX3_refusalOfPass; rw [if_neg (by decide), if_neg (by decide)])
theorem y_sweep (x : Int32) (hx : fX3_refusalOfSweep (og0 w) x = 1) : wrp (fX5_sweep w x) = (-1001, w) := by unfold fX5_sweep; rw [hx]; rfl
theorem y_sweep0 : wrp (fX5_sweep w 0) = (-1001, w) := y_sweep w 0 (by unfold fX3_refusalOfSweep; exact if_pos (by decide))
theorem y_sweep241 : wrp (fX5_sweep w 241) = (-1001, w) := y_sweep w 241 (by unfold fX3_refusalOfSweep; rw [if_neg (by decide), if_neg (by decide)])
theorem y_app31 : wrp (fX5_append w 31) = (-1001, w) := by unfold fX5_append; rw [if_pos (by decide)]; rfl
theorem y_app200 : wrp (fX5_append w 200) = (-1001, w) := by unfold fX5_append; rw [if_neg (by decide), if_neg (by decide)]; rfl
end THR
