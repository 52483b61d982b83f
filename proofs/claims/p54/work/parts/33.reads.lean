/-! the law's readings: the hall alone decides the answer; nothing changes -/
def wv (p : Nat × Int32) : Int32 := if p.1 = 0 then p.2 else if p.1 = 1 then -1001 else if p.1 = 2 then -1002 else -1003
def wb (p : Nat × Int32) : Int32 := if p.1 = 0 then (if p.2 = 0 then 0 else 1) else if p.1 = 1 then -1001 else if p.1 = 2 then -1002 else -1003
theorem wrp_v {F : Nat × Int32 × OS} {p : Nat × Int32} {u : OS} (h : F = (p.1, p.2, u)) : wrp F = (wv p, u) := by rw [h]; rfl
theorem wrb_v {F : Nat × Int32 × OS} {p : Nat × Int32} {u : OS} (h : F = (p.1, p.2, u)) : wrb F = (wb p, u) := by rw [h]; rfl
def qrequireGuest (h : HS) (x1 : Int32) : Nat :=
  (if (fX3_hasGuest h x1) = 0 then 1 else 0)
theorem qrequireGuest_eq (u : OS) (x1 : Int32) : fX5_requireGuest u x1 = qrequireGuest (og0 u) x1 := rfl
def qrequirePlacedHat (h : HS) (x1 : Int32) : Nat :=
  (if (fX3_refusalWithoutHat h x1) = 1 then 1 else (if (fX3_refusalWithoutHat h x1) = 0 then 0 else 2))
theorem qrequirePlacedHat_eq (u : OS) (x1 : Int32) : fX5_requirePlacedHat u x1 = qrequirePlacedHat (og0 u) x1 := rfl
def qrequireLeftCoat (h : HS) (x1 : Int32) : Nat :=
  (if (fX3_refusalWithoutCoat h x1) = 1 then 1 else (if (fX3_refusalWithoutCoat h x1) = 0 then 0 else 2))
theorem qrequireLeftCoat_eq (u : OS) (x1 : Int32) : fX5_requireLeftCoat u x1 = qrequireLeftCoat (og0 u) x1 := rfl
def r_feathers (h : HS) (x1 : Int32) : Nat × Int32 :=
  (if qrequireGuest h x1 = 0 then (0, h0 h x1.toNatClampNeg) else (qrequireGuest h x1, 0))
theorem r_feathers_eq (u : OS) (x1 : Int32) : fX5_feathers u x1 = ((r_feathers (og0 u) x1).1, (r_feathers (og0 u) x1).2, u) := by
  unfold fX5_feathers r_feathers
  rw [qrequireGuest_eq]
  repeat' split
  all_goals first | rfl | contradiction
theorem rd_feathers (u : OS) (x1 : Int32) : wrp (fX5_feathers u x1) = (wv (r_feathers (og0 u) x1), u) := wrp_v (r_feathers_eq u x1)
def r_brim (h : HS) (x1 : Int32) : Nat × Int32 :=
  (if qrequireGuest h x1 = 0 then (0, h1 h x1.toNatClampNeg) else (qrequireGuest h x1, 0))
theorem r_brim_eq (u : OS) (x1 : Int32) : fX5_brim u x1 = ((r_brim (og0 u) x1).1, (r_brim (og0 u) x1).2, u) := by
  unfold fX5_brim r_brim
  rw [qrequireGuest_eq]
  repeat' split
  all_goals first | rfl | contradiction
theorem rd_brim (u : OS) (x1 : Int32) : wrp (fX5_brim u x1) = (wv (r_brim (og0 u) x1), u) := wrp_v (r_brim_eq u x1)
def r_isPlaced (h : HS) (x1 : Int32) : Nat × Int32 :=
  (if qrequireGuest h x1 = 0 then (0, fX3_hatIsPlaced h x1) else (qrequireGuest h x1, 0))
theorem r_isPlaced_eq (u : OS) (x1 : Int32) : fX5_isPlaced u x1 = ((r_isPlaced (og0 u) x1).1, (r_isPlaced (og0 u) x1).2, u) := by
  unfold fX5_isPlaced r_isPlaced
  rw [qrequireGuest_eq]
  repeat' split
  all_goals first | rfl | contradiction
theorem rd_isPlaced (u : OS) (x1 : Int32) : wrb (fX5_isPlaced u x1) = (wb (r_isPlaced (og0 u) x1), u) := wrb_v (r_isPlaced_eq u x1)
def r_hatChair (h : HS) (x1 : Int32) : Nat × Int32 :=
  (if qrequirePlacedHat h x1 = 0 then (0, h2 h x1.toNatClampNeg) else (qrequirePlacedHat h x1, 0))
theorem r_hatChair_eq (u : OS) (x1 : Int32) : fX5_hatChair u x1 = ((r_hatChair (og0 u) x1).1, (r_hatChair (og0 u) x1).2, u) := by
  unfold fX5_hatChair r_hatChair
  rw [qrequirePlacedHat_eq]
  repeat' split
  all_goals first | rfl | contradiction
theorem rd_hatChair (u : OS) (x1 : Int32) : wrp (fX5_hatChair u x1) = (wv (r_hatChair (og0 u) x1), u) := wrp_v (r_hatChair_eq u x1)
def r_coverSize (h : HS) (x1 : Int32) : Nat × Int32 :=
  (if qrequireGuest h x1 = 0 then (0, fX3_coverOf h x1) else (qrequireGuest h x1, 0))
theorem r_coverSize_eq (u : OS) (x1 : Int32) : fX5_coverSize u x1 = ((r_coverSize (og0 u) x1).1, (r_coverSize (og0 u) x1).2, u) := by
  unfold fX5_coverSize r_coverSize
  rw [qrequireGuest_eq]
  repeat' split
  all_goals first | rfl | contradiction
theorem rd_coverSize (u : OS) (x1 : Int32) : wrp (fX5_coverSize u x1) = (wv (r_coverSize (og0 u) x1), u) := wrp_v (r_coverSize_eq u x1)
def r_idleMinutes (h : HS) (x1 : Int32) : Nat × Int32 :=
  (if qrequirePlacedHat h x1 = 0 then (0, fX3_idleTime h x1) else (qrequirePlacedHat h x1, 0))
theorem r_idleMinutes_eq (u : OS) (x1 : Int32) : fX5_idleMinutes u x1 = ((r_idleMinutes (og0 u) x1).1, (r_idleMinutes (og0 u) x1).2, u) := by
  unfold fX5_idleMinutes r_idleMinutes
  rw [qrequirePlacedHat_eq]
  repeat' split
  all_goals first | rfl | contradiction
theorem rd_idleMinutes (u : OS) (x1 : Int32) : wrp (fX5_idleMinutes u x1) = (wv (r_idleMinutes (og0 u) x1), u) := wrp_v (r_idleMinutes_eq u x1)
def r_hasCoatLeft (h : HS) (x1 : Int32) : Nat × Int32 :=
  (if qrequireGuest h x1 = 0 then (if (h5 h x1.toNatClampNeg) = (-1) then (0, 0) else (0, 1)) else (qrequireGuest h x1, 0))
theorem r_hasCoatLeft_eq (u : OS) (x1 : Int32) : fX5_hasCoatLeft u x1 = ((r_hasCoatLeft (og0 u) x1).1, (r_hasCoatLeft (og0 u) x1).2, u) := by
  unfold fX5_hasCoatLeft r_hasCoatLeft
  rw [qrequireGuest_eq]
  repeat' split
  all_goals first | rfl | contradiction
theorem rd_hasCoatLeft (u : OS) (x1 : Int32) : wrb (fX5_hasCoatLeft u x1) = (wb (r_hasCoatLeft (og0 u) x1), u) := wrb_v (r_hasCoatLeft_eq u x1)
def r_coatChair (h : HS) (x1 : Int32) : Nat × Int32 :=
  (if qrequireLeftCoat h x1 = 0 then (0, h5 h x1.toNatClampNeg) else (qrequireLeftCoat h x1, 0))
theorem r_coatChair_eq (u : OS) (x1 : Int32) : fX5_coatChair u x1 = ((r_coatChair (og0 u) x1).1, (r_coatChair (og0 u) x1).2, u) := by
  unfold fX5_coatChair r_coatChair
  rw [qrequireLeftCoat_eq]
  repeat' split
  all_goals first | rfl | contradiction
theorem rd_coatChair (u : OS) (x1 : Int32) : wrp (fX5_coatChair u x1) = (wv (r_coatChair (og0 u) x1), u) := wrp_v (r_coatChair_eq u x1)
def r_coatCount (h : HS) (x1 : Int32) : Nat × Int32 :=
  (if fX5_requireChair x1 = 0 then (0, fX3_coatsOn h x1) else (fX5_requireChair x1, 0))
theorem r_coatCount_eq (u : OS) (x1 : Int32) : fX5_coatCount u x1 = ((r_coatCount (og0 u) x1).1, (r_coatCount (og0 u) x1).2, u) := by
  unfold fX5_coatCount r_coatCount
  repeat' split
  all_goals first | rfl | contradiction
theorem rd_coatCount (u : OS) (x1 : Int32) : wrp (fX5_coatCount u x1) = (wv (r_coatCount (og0 u) x1), u) := wrp_v (r_coatCount_eq u x1)
def r_coatOwner (h : HS) (x1 : Int32) (x2 : Int32) : Nat × Int32 :=
  (if fX5_requireChair x1 = 0 then (if (fX3_ownerAt h x1 x2) = (-1) then (2, 0) else (0, fX3_ownerAt h x1 x2)) else (fX5_requireChair x1, 0))
theorem r_coatOwner_eq (u : OS) (x1 : Int32) (x2 : Int32) : fX5_coatOwner u x1 x2 = ((r_coatOwner (og0 u) x1 x2).1, (r_coatOwner (og0 u) x1 x2).2, u) := by
  unfold fX5_coatOwner r_coatOwner
  repeat' split
  all_goals first | rfl | contradiction
theorem rd_coatOwner (u : OS) (x1 : Int32) (x2 : Int32) : wrp (fX5_coatOwner u x1 x2) = (wv (r_coatOwner (og0 u) x1 x2), u) := wrp_v (r_coatOwner_eq u x1 x2)
def r_nextClaimant (h : HS) (x1 : Int32) : Nat × Int32 :=
  (if fX5_requireChair x1 = 0 then (if (fX3_claimantByQueue h x1) = (-1) then (2, 0) else (0, fX3_claimantByQueue h x1)) else (fX5_requireChair x1, 0))
theorem r_nextClaimant_eq (u : OS) (x1 : Int32) : fX5_nextClaimant u x1 = ((r_nextClaimant (og0 u) x1).1, (r_nextClaimant (og0 u) x1).2, u) := by
  unfold fX5_nextClaimant r_nextClaimant
  repeat' split
  all_goals first | rfl | contradiction
theorem rd_nextClaimant (u : OS) (x1 : Int32) : wrp (fX5_nextClaimant u x1) = (wv (r_nextClaimant (og0 u) x1), u) := wrp_v (r_nextClaimant_eq u x1)
def r_isCovered (h : HS) (x1 : Int32) : Nat × Int32 :=
  (if fX5_requireChair x1 = 0 then (if (fX3_covererAt h x1) = (-1) then (0, 0) else (0, 1)) else (fX5_requireChair x1, 0))
theorem r_isCovered_eq (u : OS) (x1 : Int32) : fX5_isCovered u x1 = ((r_isCovered (og0 u) x1).1, (r_isCovered (og0 u) x1).2, u) := by
  unfold fX5_isCovered r_isCovered
  repeat' split
  all_goals first | rfl | contradiction
theorem rd_isCovered (u : OS) (x1 : Int32) : wrb (fX5_isCovered u x1) = (wb (r_isCovered (og0 u) x1), u) := wrb_v (r_isCovered_eq u x1)
def r_covererOf (h : HS) (x1 : Int32) : Nat × Int32 :=
  (if fX5_requireChair x1 = 0 then (if (fX3_covererAt h x1) = (-1) then (2, 0) else (0, fX3_covererAt h x1)) else (fX5_requireChair x1, 0))
theorem r_covererOf_eq (u : OS) (x1 : Int32) : fX5_covererOf u x1 = ((r_covererOf (og0 u) x1).1, (r_covererOf (og0 u) x1).2, u) := by
  unfold fX5_covererOf r_covererOf
  repeat' split
  all_goals first | rfl | contradiction
theorem rd_covererOf (u : OS) (x1 : Int32) : wrp (fX5_covererOf u x1) = (wv (r_covererOf (og0 u) x1), u) := wrp_v (r_covererOf_eq u x1)
def r_longestFreeRun (h : HS) (x1 : Int32) : Nat × Int32 :=
  (if fX5_requireRow x1 = 0 then (0, fX3_freeRunByScan h x1) else (fX5_requireRow x1, 0))
theorem r_longestFreeRun_eq (u : OS) (x1 : Int32) : fX5_longestFreeRun u x1 = ((r_longestFreeRun (og0 u) x1).1, (r_longestFreeRun (og0 u) x1).2, u) := by
  unfold fX5_longestFreeRun r_longestFreeRun
  repeat' split
  all_goals first | rfl | contradiction
theorem rd_longestFreeRun (u : OS) (x1 : Int32) : wrp (fX5_longestFreeRun u x1) = (wv (r_longestFreeRun (og0 u) x1), u) := wrp_v (r_longestFreeRun_eq u x1)
def r_guestAtRank (h : HS) (x1 : Int32) : Nat × Int32 :=
  (if (fX3_guestBehind h x1) = (-1) then (1, 0) else (0, fX3_guestBehind h x1))
theorem r_guestAtRank_eq (u : OS) (x1 : Int32) : fX5_guestAtRank u x1 = ((r_guestAtRank (og0 u) x1).1, (r_guestAtRank (og0 u) x1).2, u) := by
  unfold fX5_guestAtRank r_guestAtRank
  repeat' split
  all_goals first | rfl | contradiction
theorem rd_guestAtRank (u : OS) (x1 : Int32) : wrp (fX5_guestAtRank u x1) = (wv (r_guestAtRank (og0 u) x1), u) := wrp_v (r_guestAtRank_eq u x1)
def r_idlestGuest (h : HS) : Nat × Int32 :=
  (if (fX3_idlest h) = (-1) then (1, 0) else (0, fX3_idlest h))
theorem r_idlestGuest_eq (u : OS) : fX5_idlestGuest u = ((r_idlestGuest (og0 u) ).1, (r_idlestGuest (og0 u) ).2, u) := by
  unfold fX5_idlestGuest r_idlestGuest
  repeat' split
  all_goals first | rfl | contradiction
theorem rd_idlestGuest (u : OS) : wrp (fX5_idlestGuest u) = (wv (r_idlestGuest (og0 u) ), u) := wrp_v (r_idlestGuest_eq u )
