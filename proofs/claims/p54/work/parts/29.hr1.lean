/-! the object's methods -/
theorem notFull {u : CS} (hci : WI u) (h : fX2_isFull u = 0) : q1 u < 60 := by
  unfold fX2_isFull at h
  split at h
  · omega
  · exact absurd h (by decide)
def remO (w : OS) : OS := osH (fX4_remember (oH w)) w
theorem hv3_rem (z : HHS) : hv3 (fX4_remember z) = hv3 z := by
  unfold fX4_remember fX4_keep fX4_prepare
  repeat (first | rfl | split)
theorem og0_remO (w : OS) : og0 (remO w) = og0 w := hv3_rem (oH w)
def HMet (l : Launch) (y : MethodName) (wsy : List Cond) (rm : Room) (D : va_G) (ca : Nat → ClassId) (en ks vs : Nat → Nat) (ai : Nat → Nat → Nat) (ad bd : Nat → Nat) (sz : Nat) (u : OS) (av : List Value) (names : List String) (F : Nat × Int32 × OS) : Prop := vx_Met l y wsy rm (MGPc D ca (HX en ks vs) sz (OW ca en ai ad bd u) av) (va_Qi (fun r v => ((0 : Nat), r, v) = F) (MB D ca (va_A (OW ca en ai ad bd u) sz) (fun v => OW ca en ai ad bd v)) (va_A (OW ca en ai ad bd u) sz)) (vx_X (fun _ : Nat × OS => True) (XB D names (F.1, 0, F.2.2) (va_A (OW ca en ai ad bd u) sz) (fun v => OW ca en ai ad bd v)) (va_A (OW ca en ai ad bd u) sz)) 2 12 (va_A (OW ca en ai ad bd u) sz)
def CMet (l : Launch) (y : MethodName) (wsy : List Cond) (rm : Room) (D : va_G) (ca : Nat → ClassId) (en ks vs : Nat → Nat) (sz : Nat) (ws : va_W) (av : List Value) (names : List String) (k : Nat) : Prop := vx_Met l y wsy rm (MGPc D ca (HX en ks vs) sz ws av) (va_Qv (fun _ : Unit => k = 0) (MB D ca (va_A ws sz) (fun _ => ws)) (va_A ws sz)) (vx_X (fun _ : Nat => True) (XC0 D names k (va_A ws sz) ws) (va_A ws sz)) 1 6 (va_A ws sz)
theorem nar_hip {u : HS} {x : Int32} : narrow .boolean (.int (fX3_hatIsPlaced u x)) = .int (fX3_hatIsPlaced u x) := by
  unfold fX3_hatIsPlaced
  split <;> decide
theorem nar_ff {u : HS} {x y : Int32} : narrow .boolean (.int (fX3_fightFor u x y).1) = .int (fX3_fightFor u x y).1 := by
  unfold fX3_fightFor
  split
  · show narrow .boolean (.int 0) = .int 0; decide
  · show narrow .boolean (.int 1) = .int 1; decide
theorem rg_in {u : HS} {x : Int32} (hg : h9 u ≤ 8) (h : (if fX3_hasGuest u x = 0 then 1 else 0 : Nat) = 0) : vp_in x 8 := by
  by_cases c : fX3_hasGuest u x = 0
  · rw [if_pos c] at h; cases h
  · exact hasGuest_in hg c
theorem rh_in {u : HS} {x : Int32} (hg : h9 u ≤ 8) (h : (if fX3_refusalWithoutHat u x = 1 then 1 else (if fX3_refusalWithoutHat u x = 0 then 0 else 2) : Nat) = 0) : vp_in x 8 := by
  by_cases c : fX3_refusalWithoutHat u x = 1
  · rw [if_pos c] at h; cases h
  · rw [if_neg c] at h
    by_cases d : fX3_refusalWithoutHat u x = 0
    · exact noHat_ok hg d
    · rw [if_neg d] at h; cases h
theorem rc_in {u : HS} {x : Int32} (hg : h9 u ≤ 8) (h : (if fX3_refusalWithoutCoat u x = 1 then 1 else (if fX3_refusalWithoutCoat u x = 0 then 0 else 2) : Nat) = 0) : vp_in x 8 := by
  by_cases c : fX3_refusalWithoutCoat u x = 1
  · rw [if_pos c] at h; cases h
  · rw [if_neg c] at h
    by_cases d : fX3_refusalWithoutCoat u x = 0
    · exact noCoat_ok hg d
    · rw [if_neg d] at h; cases h
def fX5_guestCount (u : OS) : Int32 :=
  (h9 (og0 u))
set_option maxHeartbeats 4000000 in
set_option maxRecDepth 100000 in
theorem kX5_guestCount (l : Launch) (D : va_G) (ca : Nat → ClassId) (en ks vs : Nat → Nat) (ai : Nat → Nat → Nat) (ad bd : Nat → Nat) (u : OS) : Met l yX5_guestCount wsX5_guestCount ({ frames := 0, cells := 0, slots := 0, locals := 0 }) (RPc D ca (OW ca en ai ad bd u) [.ref (ad 0)]) (vp_Si (fun r => r = fX5_guestCount u)) 0 0 (fun _ => False) := by
  refine Met.ofW (cc := cX5_guestCount) (maxL := 1) (ret := (some .int)) (by decide) rfl ?_
  intro p e s m args below meth c s₁ B hml hv
  obtain ⟨rfl, hP, hK⟩ := hv
  have hx := B.exec
  have hb := B.bytes
  have hr := B.returns
  have hts := atoms_spec (ws := wsX5_guestCount) B.pre
  have hown : s.vm.findClass RX5 = some m.cls := findClass_of_methodNamed B.named
  have hlocks := B.notSynchronized
  have hin5 : ∀ w ∈ wsX50, w ∈ wsX5_guestCount := by decide +kernel
  have hin3 : ∀ w ∈ wsX30, w ∈ wsX5_guestCount := by decide +kernel
  have hin := hin5
  have hS : va_S (fun _ => False) s.heap s.heap [] := va_S.rf
  have hf : fX5_guestCount u = fX5_guestCount u := rfl
  refine W_entry (Nat.le_of_ble_eq_true rfl) (fun ls hl => ?_)
  have hl : lv_has ls 1 [(0, .ref (ad 0))] := hl
  refine lv_aload_n hx hb dX5_guestCount_0 rfl (lv_at hl 0 rfl) ?_
  refine va_get (D := D) (ci := 6) (v := .ref (ai 9 8)) (C := RX5) (T := TX5) (N := 10) hx hb hts hin hown hK hP 0 rfl rfl 0 (by decide) (hts (.fieldLink RX5 10 "HatReservations" "hall" "LHatReservations$Hall;") (by decide +kernel)) (fun _ h9 => h9) rfl dX5_guestCount_1 ?_
  refine va_get (D := D) (ci := 4) (v := .int (h9 (og0 u))) (C := RX3) (T := TX3) (N := 15) hx hb hts hin3 hown hK (OP_hall hP) 0 rfl rfl 9 (by decide) (hts (.fieldLink RX5 116 "HatReservations$Hall" "guests" "I") (by decide +kernel)) (fun _ h9 => h9) rfl dX5_guestCount_4 ?_
  exact W.iret (v := h9 (og0 u)) hx hb hr (fun t ht hW => ⟨h9 (og0 u), rfl, hf.symm, ht⟩) (fun _ h => by cases h) dX5_guestCount_7
def fX5_now (u : OS) : Int32 :=
  (h10 (og0 u))
set_option maxHeartbeats 4000000 in
set_option maxRecDepth 100000 in
theorem kX5_now (l : Launch) (D : va_G) (ca : Nat → ClassId) (en ks vs : Nat → Nat) (ai : Nat → Nat → Nat) (ad bd : Nat → Nat) (u : OS) : Met l yX5_now wsX5_now ({ frames := 0, cells := 0, slots := 0, locals := 0 }) (RPc D ca (OW ca en ai ad bd u) [.ref (ad 0)]) (vp_Si (fun r => r = fX5_now u)) 0 0 (fun _ => False) := by
  refine Met.ofW (cc := cX5_now) (maxL := 1) (ret := (some .int)) (by decide) rfl ?_
  intro p e s m args below meth c s₁ B hml hv
  obtain ⟨rfl, hP, hK⟩ := hv
  have hx := B.exec
  have hb := B.bytes
  have hr := B.returns
  have hts := atoms_spec (ws := wsX5_now) B.pre
  have hown : s.vm.findClass RX5 = some m.cls := findClass_of_methodNamed B.named
  have hlocks := B.notSynchronized
  have hin5 : ∀ w ∈ wsX50, w ∈ wsX5_now := by decide +kernel
  have hin3 : ∀ w ∈ wsX30, w ∈ wsX5_now := by decide +kernel
  have hin := hin5
  have hS : va_S (fun _ => False) s.heap s.heap [] := va_S.rf
  have hf : fX5_now u = fX5_now u := rfl
  refine W_entry (Nat.le_of_ble_eq_true rfl) (fun ls hl => ?_)
  have hl : lv_has ls 1 [(0, .ref (ad 0))] := hl
  refine lv_aload_n hx hb dX5_now_0 rfl (lv_at hl 0 rfl) ?_
  refine va_get (D := D) (ci := 6) (v := .ref (ai 9 8)) (C := RX5) (T := TX5) (N := 10) hx hb hts hin hown hK hP 0 rfl rfl 0 (by decide) (hts (.fieldLink RX5 10 "HatReservations" "hall" "LHatReservations$Hall;") (by decide +kernel)) (fun _ h9 => h9) rfl dX5_now_1 ?_
  refine va_get (D := D) (ci := 4) (v := .int (h10 (og0 u))) (C := RX3) (T := TX3) (N := 15) hx hb hts hin3 hown hK (OP_hall hP) 0 rfl rfl 10 (by decide) (hts (.fieldLink RX5 214 "HatReservations$Hall" "time" "I") (by decide +kernel)) (fun _ h9 => h9) rfl dX5_now_4 ?_
  exact W.iret (v := h10 (og0 u)) hx hb hr (fun t ht hW => ⟨h10 (og0 u), rfl, hf.symm, ht⟩) (fun _ h => by cases h) dX5_now_7
def fX5_sweptTotal (u : OS) : Int32 :=
  (h11 (og0 u))
set_option maxHeartbeats 4000000 in
set_option maxRecDepth 100000 in
theorem kX5_sweptTotal (l : Launch) (D : va_G) (ca : Nat → ClassId) (en ks vs : Nat → Nat) (ai : Nat → Nat → Nat) (ad bd : Nat → Nat) (u : OS) : Met l yX5_sweptTotal wsX5_sweptTotal ({ frames := 0, cells := 0, slots := 0, locals := 0 }) (RPc D ca (OW ca en ai ad bd u) [.ref (ad 0)]) (vp_Si (fun r => r = fX5_sweptTotal u)) 0 0 (fun _ => False) := by
  refine Met.ofW (cc := cX5_sweptTotal) (maxL := 1) (ret := (some .int)) (by decide) rfl ?_
  intro p e s m args below meth c s₁ B hml hv
  obtain ⟨rfl, hP, hK⟩ := hv
  have hx := B.exec
  have hb := B.bytes
  have hr := B.returns
  have hts := atoms_spec (ws := wsX5_sweptTotal) B.pre
  have hown : s.vm.findClass RX5 = some m.cls := findClass_of_methodNamed B.named
  have hlocks := B.notSynchronized
  have hin5 : ∀ w ∈ wsX50, w ∈ wsX5_sweptTotal := by decide +kernel
  have hin3 : ∀ w ∈ wsX30, w ∈ wsX5_sweptTotal := by decide +kernel
  have hin := hin5
  have hS : va_S (fun _ => False) s.heap s.heap [] := va_S.rf
  have hf : fX5_sweptTotal u = fX5_sweptTotal u := rfl
  refine W_entry (Nat.le_of_ble_eq_true rfl) (fun ls hl => ?_)
  have hl : lv_has ls 1 [(0, .ref (ad 0))] := hl
  refine lv_aload_n hx hb dX5_sweptTotal_0 rfl (lv_at hl 0 rfl) ?_
  refine va_get (D := D) (ci := 6) (v := .ref (ai 9 8)) (C := RX5) (T := TX5) (N := 10) hx hb hts hin hown hK hP 0 rfl rfl 0 (by decide) (hts (.fieldLink RX5 10 "HatReservations" "hall" "LHatReservations$Hall;") (by decide +kernel)) (fun _ h9 => h9) rfl dX5_sweptTotal_1 ?_
  refine va_get (D := D) (ci := 4) (v := .int (h11 (og0 u))) (C := RX3) (T := TX3) (N := 15) hx hb hts hin3 hown hK (OP_hall hP) 0 rfl rfl 11 (by decide) (hts (.fieldLink RX5 247 "HatReservations$Hall" "swept" "I") (by decide +kernel)) (fun _ h9 => h9) rfl dX5_sweptTotal_4 ?_
  exact W.iret (v := h11 (og0 u)) hx hb hr (fun t ht hW => ⟨h11 (og0 u), rfl, hf.symm, ht⟩) (fun _ h => by cases h) dX5_sweptTotal_7
def fX5_lapsedTotal (u : OS) : Int32 :=
  (h12 (og0 u))
set_option maxHeartbeats 4000000 in
set_option maxRecDepth 100000 in
theorem kX5_lapsedTotal (l : Launch) (D : va_G) (ca : Nat → ClassId) (en ks vs : Nat → Nat) (ai : Nat → Nat → Nat) (ad bd : Nat → Nat) (u : OS) : Met l yX5_lapsedTotal wsX5_lapsedTotal ({ frames := 0, cells := 0, slots := 0, locals := 0 }) (RPc D ca (OW ca en ai ad bd u) [.ref (ad 0)]) (vp_Si (fun r => r = fX5_lapsedTotal u)) 0 0 (fun _ => False) := by
  refine Met.ofW (cc := cX5_lapsedTotal) (maxL := 1) (ret := (some .int)) (by decide) rfl ?_
  intro p e s m args below meth c s₁ B hml hv
  obtain ⟨rfl, hP, hK⟩ := hv
  have hx := B.exec
  have hb := B.bytes
  have hr := B.returns
  have hts := atoms_spec (ws := wsX5_lapsedTotal) B.pre
  have hown : s.vm.findClass RX5 = some m.cls := findClass_of_methodNamed B.named
  have hlocks := B.notSynchronized
  have hin5 : ∀ w ∈ wsX50, w ∈ wsX5_lapsedTotal := by decide +kernel
  have hin3 : ∀ w ∈ wsX30, w ∈ wsX5_lapsedTotal := by decide +kernel
  have hin := hin5
  have hS : va_S (fun _ => False) s.heap s.heap [] := va_S.rf
  have hf : fX5_lapsedTotal u = fX5_lapsedTotal u := rfl
  refine W_entry (Nat.le_of_ble_eq_true rfl) (fun ls hl => ?_)
  have hl : lv_has ls 1 [(0, .ref (ad 0))] := hl
  refine lv_aload_n hx hb dX5_lapsedTotal_0 rfl (lv_at hl 0 rfl) ?_
  refine va_get (D := D) (ci := 6) (v := .ref (ai 9 8)) (C := RX5) (T := TX5) (N := 10) hx hb hts hin hown hK hP 0 rfl rfl 0 (by decide) (hts (.fieldLink RX5 10 "HatReservations" "hall" "LHatReservations$Hall;") (by decide +kernel)) (fun _ h9 => h9) rfl dX5_lapsedTotal_1 ?_
  refine va_get (D := D) (ci := 4) (v := .int (h12 (og0 u))) (C := RX3) (T := TX3) (N := 15) hx hb hts hin3 hown hK (OP_hall hP) 0 rfl rfl 12 (by decide) (hts (.fieldLink RX5 250 "HatReservations$Hall" "lapsed" "I") (by decide +kernel)) (fun _ h9 => h9) rfl dX5_lapsedTotal_4 ?_
  exact W.iret (v := h12 (og0 u)) hx hb hr (fun t ht hW => ⟨h12 (og0 u), rfl, hf.symm, ht⟩) (fun _ h => by cases h) dX5_lapsedTotal_7
def fX5_offersTaken (u : OS) : Int32 :=
  (h13 (og0 u))
set_option maxHeartbeats 4000000 in
set_option maxRecDepth 100000 in
theorem kX5_offersTaken (l : Launch) (D : va_G) (ca : Nat → ClassId) (en ks vs : Nat → Nat) (ai : Nat → Nat → Nat) (ad bd : Nat → Nat) (u : OS) : Met l yX5_offersTaken wsX5_offersTaken ({ frames := 0, cells := 0, slots := 0, locals := 0 }) (RPc D ca (OW ca en ai ad bd u) [.ref (ad 0)]) (vp_Si (fun r => r = fX5_offersTaken u)) 0 0 (fun _ => False) := by
  refine Met.ofW (cc := cX5_offersTaken) (maxL := 1) (ret := (some .int)) (by decide) rfl ?_
  intro p e s m args below meth c s₁ B hml hv
  obtain ⟨rfl, hP, hK⟩ := hv
  have hx := B.exec
  have hb := B.bytes
  have hr := B.returns
  have hts := atoms_spec (ws := wsX5_offersTaken) B.pre
  have hown : s.vm.findClass RX5 = some m.cls := findClass_of_methodNamed B.named
  have hlocks := B.notSynchronized
  have hin5 : ∀ w ∈ wsX50, w ∈ wsX5_offersTaken := by decide +kernel
  have hin3 : ∀ w ∈ wsX30, w ∈ wsX5_offersTaken := by decide +kernel
  have hin := hin5
  have hS : va_S (fun _ => False) s.heap s.heap [] := va_S.rf
  have hf : fX5_offersTaken u = fX5_offersTaken u := rfl
  refine W_entry (Nat.le_of_ble_eq_true rfl) (fun ls hl => ?_)
  have hl : lv_has ls 1 [(0, .ref (ad 0))] := hl
  refine lv_aload_n hx hb dX5_offersTaken_0 rfl (lv_at hl 0 rfl) ?_
  refine va_get (D := D) (ci := 6) (v := .ref (ai 9 8)) (C := RX5) (T := TX5) (N := 10) hx hb hts hin hown hK hP 0 rfl rfl 0 (by decide) (hts (.fieldLink RX5 10 "HatReservations" "hall" "LHatReservations$Hall;") (by decide +kernel)) (fun _ h9 => h9) rfl dX5_offersTaken_1 ?_
  refine va_get (D := D) (ci := 4) (v := .int (h13 (og0 u))) (C := RX3) (T := TX3) (N := 15) hx hb hts hin3 hown hK (OP_hall hP) 0 rfl rfl 13 (by decide) (hts (.fieldLink RX5 253 "HatReservations$Hall" "taken" "I") (by decide +kernel)) (fun _ h9 => h9) rfl dX5_offersTaken_4 ?_
  exact W.iret (v := h13 (og0 u)) hx hb hr (fun t ht hW => ⟨h13 (og0 u), rfl, hf.symm, ht⟩) (fun _ h => by cases h) dX5_offersTaken_7
def fX5_contestsWon (u : OS) : Int32 :=
  (h14 (og0 u))
set_option maxHeartbeats 4000000 in
set_option maxRecDepth 100000 in
theorem kX5_contestsWon (l : Launch) (D : va_G) (ca : Nat → ClassId) (en ks vs : Nat → Nat) (ai : Nat → Nat → Nat) (ad bd : Nat → Nat) (u : OS) : Met l yX5_contestsWon wsX5_contestsWon ({ frames := 0, cells := 0, slots := 0, locals := 0 }) (RPc D ca (OW ca en ai ad bd u) [.ref (ad 0)]) (vp_Si (fun r => r = fX5_contestsWon u)) 0 0 (fun _ => False) := by
  refine Met.ofW (cc := cX5_contestsWon) (maxL := 1) (ret := (some .int)) (by decide) rfl ?_
  intro p e s m args below meth c s₁ B hml hv
  obtain ⟨rfl, hP, hK⟩ := hv
  have hx := B.exec
  have hb := B.bytes
  have hr := B.returns
  have hts := atoms_spec (ws := wsX5_contestsWon) B.pre
  have hown : s.vm.findClass RX5 = some m.cls := findClass_of_methodNamed B.named
  have hlocks := B.notSynchronized
  have hin5 : ∀ w ∈ wsX50, w ∈ wsX5_contestsWon := by decide +kernel
  have hin3 : ∀ w ∈ wsX30, w ∈ wsX5_contestsWon := by decide +kernel
  have hin := hin5
  have hS : va_S (fun _ => False) s.heap s.heap [] := va_S.rf
  have hf : fX5_contestsWon u = fX5_contestsWon u := rfl
  refine W_entry (Nat.le_of_ble_eq_true rfl) (fun ls hl => ?_)
  have hl : lv_has ls 1 [(0, .ref (ad 0))] := hl
  refine lv_aload_n hx hb dX5_contestsWon_0 rfl (lv_at hl 0 rfl) ?_
  refine va_get (D := D) (ci := 6) (v := .ref (ai 9 8)) (C := RX5) (T := TX5) (N := 10) hx hb hts hin hown hK hP 0 rfl rfl 0 (by decide) (hts (.fieldLink RX5 10 "HatReservations" "hall" "LHatReservations$Hall;") (by decide +kernel)) (fun _ h9 => h9) rfl dX5_contestsWon_1 ?_
  refine va_get (D := D) (ci := 4) (v := .int (h14 (og0 u))) (C := RX3) (T := TX3) (N := 15) hx hb hts hin3 hown hK (OP_hall hP) 0 rfl rfl 14 (by decide) (hts (.fieldLink RX5 256 "HatReservations$Hall" "won" "I") (by decide +kernel)) (fun _ h9 => h9) rfl dX5_contestsWon_4 ?_
  exact W.iret (v := h14 (og0 u)) hx hb hr (fun t ht hW => ⟨h14 (og0 u), rfl, hf.symm, ht⟩) (fun _ h => by cases h) dX5_contestsWon_7
def fX5_coveredMask (u : OS) : Int64 :=
  (fX3_coveredChairs (og0 u))
set_option maxHeartbeats 4000000 in
set_option maxRecDepth 100000 in
theorem kX5_coveredMask (l : Launch) (D : va_G) (ca : Nat → ClassId) (en ks vs : Nat → Nat) (ai : Nat → Nat → Nat) (ad bd : Nat → Nat) (u : OS) : Met l yX5_coveredMask wsX5_coveredMask ({ frames := 1, cells := 0, slots := 0, locals := 23 }) (RPc D ca (OW ca en ai ad bd u) [.ref (ad 0)]) (vp_Sl (fun r => r = fX5_coveredMask u)) 0 0 (fun _ => False) := by
  refine Met.ofW (cc := cX5_coveredMask) (maxL := 1) (ret := (some .long)) (by decide) rfl ?_
  intro p e s m args below meth c s₁ B hml hv
  obtain ⟨rfl, hP, hK⟩ := hv
  have hx := B.exec
  have hb := B.bytes
  have hr := B.returns
  have hts := atoms_spec (ws := wsX5_coveredMask) B.pre
  have hown : s.vm.findClass RX5 = some m.cls := findClass_of_methodNamed B.named
  have hlocks := B.notSynchronized
  have hin5 : ∀ w ∈ wsX50, w ∈ wsX5_coveredMask := by decide +kernel
  have hin3 : ∀ w ∈ wsX30, w ∈ wsX5_coveredMask := by decide +kernel
  have hin := hin5
  have hS : va_S (fun _ => False) s.heap s.heap [] := va_S.rf
  have hf : fX5_coveredMask u = fX5_coveredMask u := rfl
  refine W_entry (Nat.le_of_ble_eq_true rfl) (fun ls hl => ?_)
  have hl : lv_has ls 1 [(0, .ref (ad 0))] := hl
  refine lv_aload_n hx hb dX5_coveredMask_0 rfl (lv_at hl 0 rfl) ?_
  refine va_get (D := D) (ci := 6) (v := .ref (ai 9 8)) (C := RX5) (T := TX5) (N := 10) hx hb hts hin hown hK hP 0 rfl rfl 0 (by decide) (hts (.fieldLink RX5 10 "HatReservations" "hall" "LHatReservations$Hall;") (by decide +kernel)) (fun _ h9 => h9) rfl dX5_coveredMask_1 ?_
  refine hcRl (As := []) (rest := []) 0 4 ⟨hx, hb, hml, hown, hts⟩ (kX3_coveredChairs l D ca (ai 9) (og0 u)  ) (cwV 0 hts gX5_coveredMask_X3_coveredChairs rfl rfl rfl (by decide +kernel) ⟨Nat.le_of_ble_eq_true rfl, Nat.le_of_ble_eq_true rfl⟩) hK (OP_hall hP) rfl rfl rfl hl.1 rfl (Nat.le_of_ble_eq_true rfl) ⟨Nat.le_of_ble_eq_true rfl, Nat.le_of_ble_eq_true rfl⟩ dX5_coveredMask_4 ?_
  exact W.lret (v := fX3_coveredChairs (og0 u)) hx hb hr (fun t ht hW => ⟨fX3_coveredChairs (og0 u), rfl, hf.symm, ht⟩) (fun _ h => by cases h) dX5_coveredMask_7
def fX5_coveredCount (u : OS) : Int32 :=
  (fX3_countByChair (og0 u))
set_option maxHeartbeats 4000000 in
set_option maxRecDepth 100000 in
theorem kX5_coveredCount (l : Launch) (D : va_G) (ca : Nat → ClassId) (en ks vs : Nat → Nat) (ai : Nat → Nat → Nat) (ad bd : Nat → Nat) (u : OS) : Met l yX5_coveredCount wsX5_coveredCount ({ frames := 2, cells := 0, slots := 0, locals := 44 }) (RPc D ca (OW ca en ai ad bd u) [.ref (ad 0)]) (vp_Si (fun r => r = fX5_coveredCount u)) 0 0 (fun _ => False) := by
  refine Met.ofW (cc := cX5_coveredCount) (maxL := 1) (ret := (some .int)) (by decide) rfl ?_
  intro p e s m args below meth c s₁ B hml hv
  obtain ⟨rfl, hP, hK⟩ := hv
  have hx := B.exec
  have hb := B.bytes
  have hr := B.returns
  have hts := atoms_spec (ws := wsX5_coveredCount) B.pre
  have hown : s.vm.findClass RX5 = some m.cls := findClass_of_methodNamed B.named
  have hlocks := B.notSynchronized
  have hin5 : ∀ w ∈ wsX50, w ∈ wsX5_coveredCount := by decide +kernel
  have hin3 : ∀ w ∈ wsX30, w ∈ wsX5_coveredCount := by decide +kernel
  have hin := hin5
  have hS : va_S (fun _ => False) s.heap s.heap [] := va_S.rf
  have hf : fX5_coveredCount u = fX5_coveredCount u := rfl
  refine W_entry (Nat.le_of_ble_eq_true rfl) (fun ls hl => ?_)
  have hl : lv_has ls 1 [(0, .ref (ad 0))] := hl
  refine lv_aload_n hx hb dX5_coveredCount_0 rfl (lv_at hl 0 rfl) ?_
  refine va_get (D := D) (ci := 6) (v := .ref (ai 9 8)) (C := RX5) (T := TX5) (N := 10) hx hb hts hin hown hK hP 0 rfl rfl 0 (by decide) (hts (.fieldLink RX5 10 "HatReservations" "hall" "LHatReservations$Hall;") (by decide +kernel)) (fun _ h9 => h9) rfl dX5_coveredCount_1 ?_
  refine hcRi (As := []) (rest := []) 0 4 ⟨hx, hb, hml, hown, hts⟩ (kX3_countByChair l D ca (ai 9) (og0 u)  ) (cwV 0 hts gX5_coveredCount_X3_countByChair rfl rfl rfl (by decide +kernel) ⟨Nat.le_of_ble_eq_true rfl, Nat.le_of_ble_eq_true rfl⟩) hK (OP_hall hP) rfl rfl rfl hl.1 rfl (Nat.le_of_ble_eq_true rfl) ⟨Nat.le_of_ble_eq_true rfl, Nat.le_of_ble_eq_true rfl⟩ dX5_coveredCount_4 ?_
  exact W.iret (v := fX3_countByChair (og0 u)) hx hb hr (fun t ht hW => ⟨fX3_countByChair (og0 u), rfl, hf.symm, ht⟩) (fun _ h => by cases h) dX5_coveredCount_7
def fX5_requireGuest (u : OS) (x1 : Int32) : Nat :=
  (if (fX3_hasGuest (og0 u) x1) = 0 then 1 else 0)
set_option maxHeartbeats 4000000 in
set_option maxRecDepth 100000 in
/-- requireGuest -/
theorem kX5_requireGuest (l : Launch) (hfl : l.stackTraces = false) (D : va_G) (ca : Nat → ClassId) (en ks vs : Nat → Nat) (ai : Nat → Nat → Nat) (ad bd : Nat → Nat) (sz : Nat) (u : OS) (x1 : Int32) (hoi : OI u) : CMet l yX5_requireGuest wsX5_requireGuest ({ frames := 6, cells := 1, slots := 6, locals := 82 }) D ca en ks vs sz (OW ca en ai ad bd u) [.ref (ad 0), .int x1] ["java/lang/IndexOutOfBoundsException"] (fX5_requireGuest u x1) := by
  unfold CMet
  refine vx_ofW (cc := cX5_requireGuest) (maxL := 2) (ret := none) (by decide) rfl ?_
  intro p e s m args below meth c s₁ B hml hxt hv
  obtain ⟨rfl, hsz, hP, hK, hD0, hX⟩ := hv
  have hx := B.exec
  have hb := B.bytes
  have hr := B.returns
  have hts := atoms_spec (ws := wsX5_requireGuest) B.pre
  have hown : s.vm.findClass RX5 = some m.cls := findClass_of_methodNamed B.named
  have hlocks := B.notSynchronized
  have hin5 : ∀ w ∈ wsX50, w ∈ wsX5_requireGuest := by decide +kernel
  have hin3 : ∀ w ∈ wsX30, w ∈ wsX5_requireGuest := by decide +kernel
  have hin := hin5
  subst hsz
  have hD := hD0.self (sz := s.heap.size)
  generalize hAe : va_A (OW ca en ai ad bd u) s.heap.size = A at hD hX ⊢
  have hA : ∀ q : Nat, s.heap.size ≤ q → A q := fun q h => by rw [← hAe]; exact Or.inr h
  have hS : va_S A s.heap s.heap [] := va_S.rf
  have hf : fX5_requireGuest u x1 = fX5_requireGuest u x1 := rfl
  refine W_entry (Nat.le_of_ble_eq_true rfl) (fun ls hl => ?_)
  have hl : lv_has ls 2 [(0, .ref (ad 0)), (1, .int x1)] := hl
  refine lv_aload_n hx hb dX5_requireGuest_0 rfl (lv_at hl 0 rfl) ?_
  refine va_get (D := D) (ci := 6) (v := .ref (ai 9 8)) (C := RX5) (T := TX5) (N := 10) hx hb hts hin hown hK hP 0 rfl rfl 0 (by decide) (hts (.fieldLink RX5 10 "HatReservations" "hall" "LHatReservations$Hall;") (by decide +kernel)) (fun _ h9 => h9) rfl dX5_requireGuest_1 ?_
  refine lv_iload_n hx hb dX5_requireGuest_4 rfl (lv_at hl 1 rfl) ?_
  refine hcRi (As := [.int x1]) (rest := []) 0 4 ⟨hx, hb, hml, hown, hts⟩ (kX3_hasGuest l D ca (ai 9) (og0 u) x1 ) (cwV 1 hts gX5_requireGuest_X3_hasGuest rfl rfl rfl (by decide +kernel) ⟨Nat.le_of_ble_eq_true rfl, Nat.le_of_ble_eq_true rfl⟩) hK (OP_hall hP) rfl rfl rfl hl.1 rfl (Nat.le_of_ble_eq_true rfl) ⟨Nat.le_of_ble_eq_true rfl, Nat.le_of_ble_eq_true rfl⟩ dX5_requireGuest_5 ?_
  refine lv_if_ne (tgt := 21) hx hb dX5_requireGuest_8 (by decide) (fun c_8 => ?_) (fun c_8 => ?_)
  · have hf := hf.trans (if_neg c_8)
    refine vx_ret (W.widen (k := 1) (n := 6) (Nat.le_of_ble_eq_true rfl) (Nat.le_of_ble_eq_true rfl) ?_)
    exact W.vret hx hb hr (fun t ht hW => ⟨⟨(), rfl, hf, by rw [ht]; exact hP, va_K.moved hW.alike hK, hD⟩, hS.F ht⟩) hS.2.2 dX5_requireGuest_21
  · have hf := hf.trans (if_pos c_8)
    exact thrIOB (is := 83) (text := "no such guest") hx hb hfl hown (hts (.classLink RX5 81 "java/lang/IndexOutOfBoundsException") (by decide +kernel)) (hts (.initialized "java/lang/IndexOutOfBoundsException") (by decide +kernel)) (fun w hw => hts w (List.mem_cons_of_mem _ (List.mem_append_right _ hw))) hX (by decide +kernel) hS (by rw [hml]; exact hl.1) dX5_requireGuest_11 dX5_requireGuest_14 dX5_requireGuest_15 dX5_requireGuest_17 dX5_requireGuest_20 hxt (Nat.le_of_ble_eq_true rfl) (Nat.le_of_ble_eq_true rfl) (Nat.le_of_ble_eq_true rfl) (Nat.le_of_ble_eq_true rfl) hlocks (fun t hAl h1 h2 => ⟨1, trivial, ⟨⟨0, rfl, rfl⟩, hf.symm, xP hP h2, hD⟩, xF hS h1 h2⟩) hS.2.2 (Nat.le_of_ble_eq_true rfl) (Nat.le_of_ble_eq_true rfl)
def fX5_requirePlacedHat (u : OS) (x1 : Int32) : Nat :=
  (if (fX3_refusalWithoutHat (og0 u) x1) = 1 then 1 else (if (fX3_refusalWithoutHat (og0 u) x1) = 0 then 0 else 2))
set_option maxHeartbeats 4000000 in
set_option maxRecDepth 100000 in
/-- requirePlacedHat -/
theorem kX5_requirePlacedHat (l : Launch) (hfl : l.stackTraces = false) (D : va_G) (ca : Nat → ClassId) (en ks vs : Nat → Nat) (ai : Nat → Nat → Nat) (ad bd : Nat → Nat) (sz : Nat) (u : OS) (x1 : Int32) (hoi : OI u) : CMet l yX5_requirePlacedHat wsX5_requirePlacedHat ({ frames := 6, cells := 1, slots := 6, locals := 82 }) D ca en ks vs sz (OW ca en ai ad bd u) [.ref (ad 0), .int x1] ["java/lang/IndexOutOfBoundsException", "java/util/NoSuchElementException"] (fX5_requirePlacedHat u x1) := by
  unfold CMet
  refine vx_ofW (cc := cX5_requirePlacedHat) (maxL := 3) (ret := none) (by decide) rfl ?_
  intro p e s m args below meth c s₁ B hml hxt hv
  obtain ⟨rfl, hsz, hP, hK, hD0, hX⟩ := hv
  have hx := B.exec
  have hb := B.bytes
  have hr := B.returns
  have hts := atoms_spec (ws := wsX5_requirePlacedHat) B.pre
  have hown : s.vm.findClass RX5 = some m.cls := findClass_of_methodNamed B.named
  have hlocks := B.notSynchronized
  have hin5 : ∀ w ∈ wsX50, w ∈ wsX5_requirePlacedHat := by decide +kernel
  have hin3 : ∀ w ∈ wsX30, w ∈ wsX5_requirePlacedHat := by decide +kernel
  have hin := hin5
  subst hsz
  have hD := hD0.self (sz := s.heap.size)
  generalize hAe : va_A (OW ca en ai ad bd u) s.heap.size = A at hD hX ⊢
  have hA : ∀ q : Nat, s.heap.size ≤ q → A q := fun q h => by rw [← hAe]; exact Or.inr h
  have hS : va_S A s.heap s.heap [] := va_S.rf
  have hf : fX5_requirePlacedHat u x1 = fX5_requirePlacedHat u x1 := rfl
  refine W_entry (Nat.le_of_ble_eq_true rfl) (fun ls hl => ?_)
  have hl : lv_has ls 3 [(0, .ref (ad 0)), (1, .int x1)] := hl
  refine lv_aload_n hx hb dX5_requirePlacedHat_0 rfl (lv_at hl 0 rfl) ?_
  refine va_get (D := D) (ci := 6) (v := .ref (ai 9 8)) (C := RX5) (T := TX5) (N := 10) hx hb hts hin hown hK hP 0 rfl rfl 0 (by decide) (hts (.fieldLink RX5 10 "HatReservations" "hall" "LHatReservations$Hall;") (by decide +kernel)) (fun _ h9 => h9) rfl dX5_requirePlacedHat_1 ?_
  refine lv_iload_n hx hb dX5_requirePlacedHat_4 rfl (lv_at hl 1 rfl) ?_
  refine hcRi (As := [.int x1]) (rest := []) 0 4 ⟨hx, hb, hml, hown, hts⟩ (kX3_refusalWithoutHat l D ca (ai 9) (og0 u) x1 hoi.1.2) (cwV 1 hts gX5_requirePlacedHat_X3_refusalWithoutHat rfl rfl rfl (by decide +kernel) ⟨Nat.le_of_ble_eq_true rfl, Nat.le_of_ble_eq_true rfl⟩) hK (OP_hall hP) rfl rfl rfl hl.1 rfl (Nat.le_of_ble_eq_true rfl) ⟨Nat.le_of_ble_eq_true rfl, Nat.le_of_ble_eq_true rfl⟩ dX5_requirePlacedHat_5 ?_
  refine lv_istore_n (lv' := [(2, .int (fX3_refusalWithoutHat (og0 u) x1)), (0, .ref (ad 0)), (1, .int x1)]) hx hb dX5_requirePlacedHat_8 rfl hl (by decide) rfl (fun ls hl => ?_)
  refine lv_iload_n hx hb dX5_requirePlacedHat_9 rfl (lv_at hl 0 rfl) ?_
  refine lv_iconst (v := 1) hx hb dX5_requirePlacedHat_10 (by decide) ?_
  refine lv_icmp_ne (tgt := 24) hx hb dX5_requirePlacedHat_11 (by decide) (fun c_11 => ?_) (fun c_11 => ?_)
  · have hf := hf.trans (if_neg c_11)
    refine lv_iload_n hx hb dX5_requirePlacedHat_24 rfl (lv_at hl 0 rfl) ?_
    refine lv_if_eq (tgt := 39) hx hb dX5_requirePlacedHat_25 (by decide) (fun c_25 => ?_) (fun c_25 => ?_)
    · have hf := hf.trans (if_pos c_25)
      refine vx_ret (W.widen (k := 1) (n := 6) (Nat.le_of_ble_eq_true rfl) (Nat.le_of_ble_eq_true rfl) ?_)
      exact W.vret hx hb hr (fun t ht hW => ⟨⟨(), rfl, hf, by rw [ht]; exact hP, va_K.moved hW.alike hK, hD⟩, hS.F ht⟩) hS.2.2 dX5_requirePlacedHat_39
    · have hf := hf.trans (if_neg c_25)
      exact thrNSEW (is := 362) (text := "the hat of the guest is not placed") hx hb hfl hown (hts (.classLink RX5 170 "java/util/NoSuchElementException") (by decide +kernel)) (hts (.initialized "java/util/NoSuchElementException") (by decide +kernel)) (fun w hw => hts w (List.mem_cons_of_mem _ (List.mem_append_left _ (List.mem_append_right _ hw)))) hX (by decide +kernel) hS (by rw [hml]; exact hl.1) dX5_requirePlacedHat_28 dX5_requirePlacedHat_31 dX5_requirePlacedHat_32 dX5_requirePlacedHat_35 dX5_requirePlacedHat_38 hxt (Nat.le_of_ble_eq_true rfl) (Nat.le_of_ble_eq_true rfl) (Nat.le_of_ble_eq_true rfl) (Nat.le_of_ble_eq_true rfl) hlocks (fun t hAl h1 h2 => ⟨2, trivial, ⟨⟨1, rfl, rfl⟩, hf.symm, xP hP h2, hD⟩, xF hS h1 h2⟩) hS.2.2 (Nat.le_of_ble_eq_true rfl) (Nat.le_of_ble_eq_true rfl)
  · have hf := hf.trans (if_pos c_11)
    exact thrIOB (is := 83) (text := "no such guest") hx hb hfl hown (hts (.classLink RX5 81 "java/lang/IndexOutOfBoundsException") (by decide +kernel)) (hts (.initialized "java/lang/IndexOutOfBoundsException") (by decide +kernel)) (fun w hw => hts w (List.mem_cons_of_mem _ (List.mem_append_left _ (List.mem_append_left _ (List.mem_append_right _ hw))))) hX (by decide +kernel) hS (by rw [hml]; exact hl.1) dX5_requirePlacedHat_14 dX5_requirePlacedHat_17 dX5_requirePlacedHat_18 dX5_requirePlacedHat_20 dX5_requirePlacedHat_23 hxt (Nat.le_of_ble_eq_true rfl) (Nat.le_of_ble_eq_true rfl) (Nat.le_of_ble_eq_true rfl) (Nat.le_of_ble_eq_true rfl) hlocks (fun t hAl h1 h2 => ⟨1, trivial, ⟨⟨0, rfl, rfl⟩, hf.symm, xP hP h2, hD⟩, xF hS h1 h2⟩) hS.2.2 (Nat.le_of_ble_eq_true rfl) (Nat.le_of_ble_eq_true rfl)
def fX5_requireLeftCoat (u : OS) (x1 : Int32) : Nat :=
  (if (fX3_refusalWithoutCoat (og0 u) x1) = 1 then 1 else (if (fX3_refusalWithoutCoat (og0 u) x1) = 0 then 0 else 2))
set_option maxHeartbeats 4000000 in
set_option maxRecDepth 100000 in
/-- requireLeftCoat -/
theorem kX5_requireLeftCoat (l : Launch) (hfl : l.stackTraces = false) (D : va_G) (ca : Nat → ClassId) (en ks vs : Nat → Nat) (ai : Nat → Nat → Nat) (ad bd : Nat → Nat) (sz : Nat) (u : OS) (x1 : Int32) (hoi : OI u) : CMet l yX5_requireLeftCoat wsX5_requireLeftCoat ({ frames := 6, cells := 1, slots := 6, locals := 82 }) D ca en ks vs sz (OW ca en ai ad bd u) [.ref (ad 0), .int x1] ["java/lang/IndexOutOfBoundsException", "java/util/NoSuchElementException"] (fX5_requireLeftCoat u x1) := by
  unfold CMet
  refine vx_ofW (cc := cX5_requireLeftCoat) (maxL := 3) (ret := none) (by decide) rfl ?_
  intro p e s m args below meth c s₁ B hml hxt hv
  obtain ⟨rfl, hsz, hP, hK, hD0, hX⟩ := hv
  have hx := B.exec
  have hb := B.bytes
  have hr := B.returns
  have hts := atoms_spec (ws := wsX5_requireLeftCoat) B.pre
  have hown : s.vm.findClass RX5 = some m.cls := findClass_of_methodNamed B.named
  have hlocks := B.notSynchronized
  have hin5 : ∀ w ∈ wsX50, w ∈ wsX5_requireLeftCoat := by decide +kernel
  have hin3 : ∀ w ∈ wsX30, w ∈ wsX5_requireLeftCoat := by decide +kernel
  have hin := hin5
  subst hsz
  have hD := hD0.self (sz := s.heap.size)
  generalize hAe : va_A (OW ca en ai ad bd u) s.heap.size = A at hD hX ⊢
  have hA : ∀ q : Nat, s.heap.size ≤ q → A q := fun q h => by rw [← hAe]; exact Or.inr h
  have hS : va_S A s.heap s.heap [] := va_S.rf
  have hf : fX5_requireLeftCoat u x1 = fX5_requireLeftCoat u x1 := rfl
  refine W_entry (Nat.le_of_ble_eq_true rfl) (fun ls hl => ?_)
  have hl : lv_has ls 3 [(0, .ref (ad 0)), (1, .int x1)] := hl
  refine lv_aload_n hx hb dX5_requireLeftCoat_0 rfl (lv_at hl 0 rfl) ?_
  refine va_get (D := D) (ci := 6) (v := .ref (ai 9 8)) (C := RX5) (T := TX5) (N := 10) hx hb hts hin hown hK hP 0 rfl rfl 0 (by decide) (hts (.fieldLink RX5 10 "HatReservations" "hall" "LHatReservations$Hall;") (by decide +kernel)) (fun _ h9 => h9) rfl dX5_requireLeftCoat_1 ?_
  refine lv_iload_n hx hb dX5_requireLeftCoat_4 rfl (lv_at hl 1 rfl) ?_
  refine hcRi (As := [.int x1]) (rest := []) 0 4 ⟨hx, hb, hml, hown, hts⟩ (kX3_refusalWithoutCoat l D ca (ai 9) (og0 u) x1 hoi.1.2) (cwV 1 hts gX5_requireLeftCoat_X3_refusalWithoutCoat rfl rfl rfl (by decide +kernel) ⟨Nat.le_of_ble_eq_true rfl, Nat.le_of_ble_eq_true rfl⟩) hK (OP_hall hP) rfl rfl rfl hl.1 rfl (Nat.le_of_ble_eq_true rfl) ⟨Nat.le_of_ble_eq_true rfl, Nat.le_of_ble_eq_true rfl⟩ dX5_requireLeftCoat_5 ?_
  refine lv_istore_n (lv' := [(2, .int (fX3_refusalWithoutCoat (og0 u) x1)), (0, .ref (ad 0)), (1, .int x1)]) hx hb dX5_requireLeftCoat_8 rfl hl (by decide) rfl (fun ls hl => ?_)
  refine lv_iload_n hx hb dX5_requireLeftCoat_9 rfl (lv_at hl 0 rfl) ?_
  refine lv_iconst (v := 1) hx hb dX5_requireLeftCoat_10 (by decide) ?_
  refine lv_icmp_ne (tgt := 24) hx hb dX5_requireLeftCoat_11 (by decide) (fun c_11 => ?_) (fun c_11 => ?_)
  · have hf := hf.trans (if_neg c_11)
    refine lv_iload_n hx hb dX5_requireLeftCoat_24 rfl (lv_at hl 0 rfl) ?_
    refine lv_if_eq (tgt := 39) hx hb dX5_requireLeftCoat_25 (by decide) (fun c_25 => ?_) (fun c_25 => ?_)
    · have hf := hf.trans (if_pos c_25)
      refine vx_ret (W.widen (k := 1) (n := 6) (Nat.le_of_ble_eq_true rfl) (Nat.le_of_ble_eq_true rfl) ?_)
      exact W.vret hx hb hr (fun t ht hW => ⟨⟨(), rfl, hf, by rw [ht]; exact hP, va_K.moved hW.alike hK, hD⟩, hS.F ht⟩) hS.2.2 dX5_requireLeftCoat_39
    · have hf := hf.trans (if_neg c_25)
      exact thrNSEW (is := 367) (text := "the coat of the guest is not left on a chair") hx hb hfl hown (hts (.classLink RX5 170 "java/util/NoSuchElementException") (by decide +kernel)) (hts (.initialized "java/util/NoSuchElementException") (by decide +kernel)) (fun w hw => hts w (List.mem_cons_of_mem _ (List.mem_append_left _ (List.mem_append_right _ hw)))) hX (by decide +kernel) hS (by rw [hml]; exact hl.1) dX5_requireLeftCoat_28 dX5_requireLeftCoat_31 dX5_requireLeftCoat_32 dX5_requireLeftCoat_35 dX5_requireLeftCoat_38 hxt (Nat.le_of_ble_eq_true rfl) (Nat.le_of_ble_eq_true rfl) (Nat.le_of_ble_eq_true rfl) (Nat.le_of_ble_eq_true rfl) hlocks (fun t hAl h1 h2 => ⟨2, trivial, ⟨⟨1, rfl, rfl⟩, hf.symm, xP hP h2, hD⟩, xF hS h1 h2⟩) hS.2.2 (Nat.le_of_ble_eq_true rfl) (Nat.le_of_ble_eq_true rfl)
  · have hf := hf.trans (if_pos c_11)
    exact thrIOB (is := 83) (text := "no such guest") hx hb hfl hown (hts (.classLink RX5 81 "java/lang/IndexOutOfBoundsException") (by decide +kernel)) (hts (.initialized "java/lang/IndexOutOfBoundsException") (by decide +kernel)) (fun w hw => hts w (List.mem_cons_of_mem _ (List.mem_append_left _ (List.mem_append_left _ (List.mem_append_right _ hw))))) hX (by decide +kernel) hS (by rw [hml]; exact hl.1) dX5_requireLeftCoat_14 dX5_requireLeftCoat_17 dX5_requireLeftCoat_18 dX5_requireLeftCoat_20 dX5_requireLeftCoat_23 hxt (Nat.le_of_ble_eq_true rfl) (Nat.le_of_ble_eq_true rfl) (Nat.le_of_ble_eq_true rfl) (Nat.le_of_ble_eq_true rfl) hlocks (fun t hAl h1 h2 => ⟨1, trivial, ⟨⟨0, rfl, rfl⟩, hf.symm, xP hP h2, hD⟩, xF hS h1 h2⟩) hS.2.2 (Nat.le_of_ble_eq_true rfl) (Nat.le_of_ble_eq_true rfl)
def fX5_requireChair (x0 : Int32) : Nat :=
  (if (fX3_hasChair x0) = 0 then 1 else 0)
set_option maxHeartbeats 4000000 in
set_option maxRecDepth 100000 in
/-- requireChair -/
theorem kX5_requireChair (l : Launch) (hfl : l.stackTraces = false) (D : va_G) (ca : Nat → ClassId) (en ks vs : Nat → Nat) (sz : Nat) (x0 : Int32) : CMet l yX5_requireChair wsX5_requireChair ({ frames := 6, cells := 1, slots := 6, locals := 82 }) D ca en ks vs sz ([]) [.int x0] ["java/lang/IndexOutOfBoundsException"] (fX5_requireChair x0) := by
  unfold CMet
  refine vx_ofW (cc := cX5_requireChair) (maxL := 1) (ret := none) (by decide) rfl ?_
  intro p e s m args below meth c s₁ B hml hxt hv
  obtain ⟨rfl, hsz, hP, hK, hD0, hX⟩ := hv
  have hx := B.exec
  have hb := B.bytes
  have hr := B.returns
  have hts := atoms_spec (ws := wsX5_requireChair) B.pre
  have hown : s.vm.findClass RX5 = some m.cls := findClass_of_methodNamed B.named
  have hlocks := B.notSynchronized
  have hin := hx
  subst hsz
  have hD := hD0.self (sz := s.heap.size)
  generalize hAe : va_A ([]) s.heap.size = A at hD hX ⊢
  have hA : ∀ q : Nat, s.heap.size ≤ q → A q := fun q h => by rw [← hAe]; exact Or.inr h
  have hS : va_S A s.heap s.heap [] := va_S.rf
  have hf : fX5_requireChair x0 = fX5_requireChair x0 := rfl
  refine W_entry (Nat.le_of_ble_eq_true rfl) (fun ls hl => ?_)
  have hl : lv_has ls 1 [(0, .int x0)] := hl
  refine lv_iload_n hx hb dX5_requireChair_0 rfl (lv_at hl 0 rfl) ?_
  refine hcSi (As := [.int x0]) (rest := []) ⟨hx, hb, hml, hown, hts⟩ (kX3_hasChair l x0) (va_cwS 1 hts gX5_requireChair_X3_hasChair rfl rfl rfl (by decide +kernel) ⟨Nat.le_of_ble_eq_true rfl, Nat.le_of_ble_eq_true rfl⟩) rfl hl.1 rfl (Nat.le_of_ble_eq_true rfl) ⟨Nat.le_of_ble_eq_true rfl, Nat.le_of_ble_eq_true rfl⟩ dX5_requireChair_1 ?_
  refine lv_if_ne (tgt := 18) hx hb dX5_requireChair_4 (by decide) (fun c_4 => ?_) (fun c_4 => ?_)
  · have hf := hf.trans (if_neg c_4)
    refine vx_ret (W.widen (k := 1) (n := 6) (Nat.le_of_ble_eq_true rfl) (Nat.le_of_ble_eq_true rfl) ?_)
    exact W.vret hx hb hr (fun t ht hW => ⟨⟨(), rfl, hf, by rw [ht]; exact hP, va_K.moved hW.alike hK, hD⟩, hS.F ht⟩) hS.2.2 dX5_requireChair_18
  · have hf := hf.trans (if_pos c_4)
    exact thrIOBW (is := 372) (text := "no such chair") hx hb hfl hown (hts (.classLink RX5 81 "java/lang/IndexOutOfBoundsException") (by decide +kernel)) (hts (.initialized "java/lang/IndexOutOfBoundsException") (by decide +kernel)) (fun w hw => hts w (List.mem_cons_of_mem _ (List.mem_append_right _ hw))) hX (by decide +kernel) hS (by rw [hml]; exact hl.1) dX5_requireChair_7 dX5_requireChair_10 dX5_requireChair_11 dX5_requireChair_14 dX5_requireChair_17 hxt (Nat.le_of_ble_eq_true rfl) (Nat.le_of_ble_eq_true rfl) (Nat.le_of_ble_eq_true rfl) (Nat.le_of_ble_eq_true rfl) hlocks (fun t hAl h1 h2 => ⟨1, trivial, ⟨⟨0, rfl, rfl⟩, hf.symm, xP hP h2, hD⟩, xF hS h1 h2⟩) hS.2.2 (Nat.le_of_ble_eq_true rfl) (Nat.le_of_ble_eq_true rfl)
def fX5_requireRow (x0 : Int32) : Nat :=
  (if x0 < 0 then 1 else (if x0 < 4 then 0 else 1))
set_option maxHeartbeats 4000000 in
set_option maxRecDepth 100000 in
/-- requireRow -/
theorem kX5_requireRow (l : Launch) (hfl : l.stackTraces = false) (D : va_G) (ca : Nat → ClassId) (en ks vs : Nat → Nat) (sz : Nat) (x0 : Int32) : CMet l yX5_requireRow wsX5_requireRow ({ frames := 6, cells := 1, slots := 6, locals := 82 }) D ca en ks vs sz ([]) [.int x0] ["java/lang/IndexOutOfBoundsException"] (fX5_requireRow x0) := by
  unfold CMet
  refine vx_ofW (cc := cX5_requireRow) (maxL := 1) (ret := none) (by decide) rfl ?_
  intro p e s m args below meth c s₁ B hml hxt hv
  obtain ⟨rfl, hsz, hP, hK, hD0, hX⟩ := hv
  have hx := B.exec
  have hb := B.bytes
  have hr := B.returns
  have hts := atoms_spec (ws := wsX5_requireRow) B.pre
  have hown : s.vm.findClass RX5 = some m.cls := findClass_of_methodNamed B.named
  have hlocks := B.notSynchronized
  have hin := hx
  subst hsz
  have hD := hD0.self (sz := s.heap.size)
  generalize hAe : va_A ([]) s.heap.size = A at hD hX ⊢
  have hA : ∀ q : Nat, s.heap.size ≤ q → A q := fun q h => by rw [← hAe]; exact Or.inr h
  have hS : va_S A s.heap s.heap [] := va_S.rf
  have hf : fX5_requireRow x0 = fX5_requireRow x0 := rfl
  refine W_entry (Nat.le_of_ble_eq_true rfl) (fun ls hl => ?_)
  have hl : lv_has ls 1 [(0, .int x0)] := hl
  refine lv_iload_n hx hb dX5_requireRow_0 rfl (lv_at hl 0 rfl) ?_
  refine lv_if_lt (tgt := 9) hx hb dX5_requireRow_1 (by decide) (fun c_1 => ?_) (fun c_1 => ?_)
  · have hf := hf.trans (if_pos c_1)
    exact thrIOBW (is := 374) (text := "no such row") hx hb hfl hown (hts (.classLink RX5 81 "java/lang/IndexOutOfBoundsException") (by decide +kernel)) (hts (.initialized "java/lang/IndexOutOfBoundsException") (by decide +kernel)) (fun w hw => hts w (List.mem_cons_of_mem _ (List.mem_append_right _ hw))) hX (by decide +kernel) hS (by rw [hml]; exact hl.1) dX5_requireRow_9 dX5_requireRow_12 dX5_requireRow_13 dX5_requireRow_16 dX5_requireRow_19 hxt (Nat.le_of_ble_eq_true rfl) (Nat.le_of_ble_eq_true rfl) (Nat.le_of_ble_eq_true rfl) (Nat.le_of_ble_eq_true rfl) hlocks (fun t hAl h1 h2 => ⟨1, trivial, ⟨⟨0, rfl, rfl⟩, hf.symm, xP hP h2, hD⟩, xF hS h1 h2⟩) hS.2.2 (Nat.le_of_ble_eq_true rfl) (Nat.le_of_ble_eq_true rfl)
  · have hf := hf.trans (if_neg c_1)
    refine lv_iload_n hx hb dX5_requireRow_4 rfl (lv_at hl 0 rfl) ?_
    refine lv_iconst (v := 4) hx hb dX5_requireRow_5 (by decide) ?_
    refine lv_icmp_lt (tgt := 20) hx hb dX5_requireRow_6 (by decide) (fun c_6 => ?_) (fun c_6 => ?_)
    · have hf := hf.trans (if_pos c_6)
      refine vx_ret (W.widen (k := 1) (n := 6) (Nat.le_of_ble_eq_true rfl) (Nat.le_of_ble_eq_true rfl) ?_)
      exact W.vret hx hb hr (fun t ht hW => ⟨⟨(), rfl, hf, by rw [ht]; exact hP, va_K.moved hW.alike hK, hD⟩, hS.F ht⟩) hS.2.2 dX5_requireRow_20
    · have hf := hf.trans (if_neg c_6)
      exact thrIOBW (is := 374) (text := "no such row") hx hb hfl hown (hts (.classLink RX5 81 "java/lang/IndexOutOfBoundsException") (by decide +kernel)) (hts (.initialized "java/lang/IndexOutOfBoundsException") (by decide +kernel)) (fun w hw => hts w (List.mem_cons_of_mem _ (List.mem_append_right _ hw))) hX (by decide +kernel) hS (by rw [hml]; exact hl.1) dX5_requireRow_9 dX5_requireRow_12 dX5_requireRow_13 dX5_requireRow_16 dX5_requireRow_19 hxt (Nat.le_of_ble_eq_true rfl) (Nat.le_of_ble_eq_true rfl) (Nat.le_of_ble_eq_true rfl) (Nat.le_of_ble_eq_true rfl) hlocks (fun t hAl h1 h2 => ⟨1, trivial, ⟨⟨0, rfl, rfl⟩, hf.symm, xP hP h2, hD⟩, xF hS h1 h2⟩) hS.2.2 (Nat.le_of_ble_eq_true rfl) (Nat.le_of_ble_eq_true rfl)
def fX5_addGuest (u : OS) (x1 : Int32) (x2 : Int32) : Nat × Int32 × OS :=
  (if (fX3_refusalOfGuest (og0 u) x1 x2) = 1 then (1, 0, u) else (if (fX3_refusalOfGuest (og0 u) x1 x2) = 0 then (0, (fX3_welcome (og0 (remO u)) x1 x2).1, os0 (fX3_welcome (og0 (remO u)) x1 x2).2 (remO u)) else (2, 0, u)))
set_option maxHeartbeats 4000000 in
set_option maxRecDepth 100000 in
/-- addGuest -/
theorem kX5_addGuest (l : Launch) (hfl : l.stackTraces = false) (D : va_G) (ca : Nat → ClassId) (en ks vs : Nat → Nat) (ai : Nat → Nat → Nat) (ad bd : Nat → Nat) (sz : Nat) (u : OS) (x1 : Int32) (x2 : Int32) (hoi : OI u) : HMet l yX5_addGuest wsX5_addGuest ({ frames := 6, cells := 2, slots := 12, locals := 82 }) D ca en ks vs ai ad bd sz u [.ref (ad 0), .int x1, .int x2] ["java/lang/IllegalArgumentException", "java/lang/IllegalStateException"] (fX5_addGuest u x1 x2) := by
  unfold HMet
  refine vx_ofW (cc := cX5_addGuest) (maxL := 4) (ret := (some .int)) (by decide) rfl ?_
  intro p e s m args below meth c s₁ B hml hxt hv
  obtain ⟨rfl, hsz, hP, hK, hD0, hX⟩ := hv
  have hx := B.exec
  have hb := B.bytes
  have hr := B.returns
  have hts := atoms_spec (ws := wsX5_addGuest) B.pre
  have hown : s.vm.findClass RX5 = some m.cls := findClass_of_methodNamed B.named
  have hlocks := B.notSynchronized
  have hin5 : ∀ w ∈ wsX50, w ∈ wsX5_addGuest := by decide +kernel
  have hin3 : ∀ w ∈ wsX30, w ∈ wsX5_addGuest := by decide +kernel
  have hin4 : ∀ w ∈ wsX40, w ∈ wsX5_addGuest := by decide +kernel
  have hin := hin5
  subst hsz
  have hD := hD0.self (sz := s.heap.size)
  generalize hAe : va_A (OW ca en ai ad bd u) s.heap.size = A at hD hX ⊢
  have hA : ∀ q : Nat, s.heap.size ≤ q → A q := fun q h => by rw [← hAe]; exact Or.inr h
  have hS : va_S A s.heap s.heap [] := va_S.rf
  have hf : fX5_addGuest u x1 x2 = fX5_addGuest u x1 x2 := rfl
  refine W_entry (Nat.le_of_ble_eq_true rfl) (fun ls hl => ?_)
  have hl : lv_has ls 4 [(0, .ref (ad 0)), (1, .int x1), (2, .int x2)] := hl
  refine lv_aload_n hx hb dX5_addGuest_0 rfl (lv_at hl 0 rfl) ?_
  refine va_get (D := D) (ci := 6) (v := .ref (ai 9 8)) (C := RX5) (T := TX5) (N := 10) hx hb hts hin hown hK hP 0 rfl rfl 0 (by decide) (hts (.fieldLink RX5 10 "HatReservations" "hall" "LHatReservations$Hall;") (by decide +kernel)) (fun _ h9 => h9) rfl dX5_addGuest_1 ?_
  refine lv_iload_n hx hb dX5_addGuest_4 rfl (lv_at hl 1 rfl) ?_
  refine lv_iload_n hx hb dX5_addGuest_5 rfl (lv_at hl 2 rfl) ?_
  refine hcRi (As := [.int x1, .int x2]) (rest := []) 0 4 ⟨hx, hb, hml, hown, hts⟩ (kX3_refusalOfGuest l D ca (ai 9) (og0 u) x1 x2 ) (cwV 2 hts gX5_addGuest_X3_refusalOfGuest rfl rfl rfl (by decide +kernel) ⟨Nat.le_of_ble_eq_true rfl, Nat.le_of_ble_eq_true rfl⟩) hK (OP_hall hP) rfl rfl rfl hl.1 rfl (Nat.le_of_ble_eq_true rfl) ⟨Nat.le_of_ble_eq_true rfl, Nat.le_of_ble_eq_true rfl⟩ dX5_addGuest_6 ?_
  refine lv_istore_n (lv' := [(3, .int (fX3_refusalOfGuest (og0 u) x1 x2)), (0, .ref (ad 0)), (1, .int x1), (2, .int x2)]) hx hb dX5_addGuest_9 rfl hl (by decide) rfl (fun ls hl => ?_)
  refine lv_iload_n hx hb dX5_addGuest_10 rfl (lv_at hl 0 rfl) ?_
  refine lv_iconst (v := 1) hx hb dX5_addGuest_11 (by decide) ?_
  refine lv_icmp_ne (tgt := 25) hx hb dX5_addGuest_12 (by decide) (fun c_12 => ?_) (fun c_12 => ?_)
  · have hf := hf.trans (if_neg c_12)
    refine lv_iload_n hx hb dX5_addGuest_25 rfl (lv_at hl 0 rfl) ?_
    refine lv_if_eq (tgt := 39) hx hb dX5_addGuest_26 (by decide) (fun c_26 => ?_) (fun c_26 => ?_)
    · have hf := hf.trans (if_pos c_26)
      refine lv_aload_n hx hb dX5_addGuest_39 rfl (lv_at hl 1 rfl) ?_
      refine va_get (D := D) (ci := 6) (v := .ref (ad 1)) (C := RX5) (T := TX5) (N := 10) hx hb hts hin hown hK hP 0 rfl rfl 2 (by decide) (hts (.fieldLink RX5 22 "HatReservations" "history" "LHatReservations$History;") (by decide +kernel)) (fun _ h9 => h9) rfl dX5_addGuest_40 ?_
      refine lv_aload_n hx hb dX5_addGuest_43 rfl (lv_at hl 1 rfl) ?_
      refine va_get (D := D) (ci := 6) (v := .ref (ai 9 8)) (C := RX5) (T := TX5) (N := 10) hx hb hts hin hown hK hP 0 rfl rfl 0 (by decide) (hts (.fieldLink RX5 10 "HatReservations" "hall" "LHatReservations$Hall;") (by decide +kernel)) (fun _ h9 => h9) rfl dX5_addGuest_44 ?_
      refine hcMv (As := [.ref (ai 9 8)]) (rest := []) (wr := OR3 ca en ai ad bd u) (f := fun z => HHW ca ai ad z) (F := fX4_remember (oH u)) 0 5 ⟨hx, hb, hml, hown, hts⟩ (kX4_remember l D ca ai ad _ (oH u) hoi.2.2.2.1 hoi.2.2.2.2.1) (cwV 1 hts gX5_addGuest_X4_remember rfl rfl rfl (by decide +kernel) ⟨Nat.le_of_ble_eq_true rfl, Nat.le_of_ble_eq_true rfl⟩) hK hP hD hS hA OP3 rfl rfl rfl hl.1 rfl (Nat.le_of_ble_eq_true rfl) ⟨Nat.le_of_ble_eq_true rfl, Nat.le_of_ble_eq_true rfl⟩ dX5_addGuest_47 (fun H locs hP hD hS => ?_)
      have hP : va_P D vwCl (OW ca en ai ad bd (remO u)) H := P_perm (OP3 (w := (remO u))).symm hP
      have hD : va_D A (OW ca en ai ad bd (remO u)) := D_perm (OP3 (w := (remO u))).symm hD
      refine lv_aload_n hx hb dX5_addGuest_50 rfl (lv_at hl 1 rfl) ?_
      refine va_get (D := D) (ci := 6) (v := .ref (ai 9 8)) (C := RX5) (T := TX5) (N := 10) hx hb hts hin hown hK hP 0 rfl rfl 0 (by decide) (hts (.fieldLink RX5 10 "HatReservations" "hall" "LHatReservations$Hall;") (by decide +kernel)) (fun _ h9 => h9) rfl dX5_addGuest_51 ?_
      refine lv_iload_n hx hb dX5_addGuest_54 rfl (lv_at hl 2 rfl) ?_
      refine lv_iload_n hx hb dX5_addGuest_55 rfl (lv_at hl 3 rfl) ?_
      refine hcMi (As := [.int x1, .int x2]) (rest := []) (wr := OR1 ca en ai ad bd (remO u)) (f := HW ca (ai 9)) (F := fX3_welcome (og0 (remO u)) x1 x2) 0 4 ⟨hx, hb, hml, hown, hts⟩ (kX3_welcome l D ca (ai 9) _ (og0 (remO u)) x1 x2 (by rw [og0_remO]; exact guest_ok hoi.1 c_26)) (cwV 2 hts gX5_addGuest_X3_welcome rfl rfl rfl (by decide +kernel) ⟨Nat.le_of_ble_eq_true rfl, Nat.le_of_ble_eq_true rfl⟩) hK hP hD hS hA OP1 rfl rfl rfl hl.1 rfl (Nat.le_of_ble_eq_true rfl) ⟨Nat.le_of_ble_eq_true rfl, Nat.le_of_ble_eq_true rfl⟩ dX5_addGuest_56 (fun H locs hP hD hS => ?_)
      have hP : va_P D vwCl (OW ca en ai ad bd (os0 (fX3_welcome (og0 (remO u)) x1 x2).2 (remO u))) H := P_perm (OP1 (w := (os0 (fX3_welcome (og0 (remO u)) x1 x2).2 (remO u)))).symm hP
      have hD : va_D A (OW ca en ai ad bd (os0 (fX3_welcome (og0 (remO u)) x1 x2).2 (remO u))) := D_perm (OP1 (w := (os0 (fX3_welcome (og0 (remO u)) x1 x2).2 (remO u)))).symm hD
      refine vx_ret (W.widen (k := 2) (n := 12) (Nat.le_of_ble_eq_true rfl) (Nat.le_of_ble_eq_true rfl) ?_)
      exact W.iret (v := (fX3_welcome (og0 (remO u)) x1 x2).1) hx hb hr (fun t ht hW => ⟨⟨(fX3_welcome (og0 (remO u)) x1 x2).1, (os0 (fX3_welcome (og0 (remO u)) x1 x2).2 (remO u)), rfl, hf.symm, by rw [ht]; exact hP, va_K.moved hW.alike hK, hD⟩, hS.F ht⟩) hS.2.2 dX5_addGuest_59
    · have hf := hf.trans (if_neg c_26)
      exact thrISE (is := 67) (text := "there are 8 guests") hx hb hfl hown (hts (.classLink RX5 65 "java/lang/IllegalStateException") (by decide +kernel)) (hts (.initialized "java/lang/IllegalStateException") (by decide +kernel)) (fun w hw => hts w (List.mem_cons_of_mem _ (List.mem_append_left _ (List.mem_append_right _ hw)))) hX (by decide +kernel) hS (by rw [hml]; exact hl.1) dX5_addGuest_29 dX5_addGuest_32 dX5_addGuest_33 dX5_addGuest_35 dX5_addGuest_38 hxt (Nat.le_of_ble_eq_true rfl) (Nat.le_of_ble_eq_true rfl) (Nat.le_of_ble_eq_true rfl) (Nat.le_of_ble_eq_true rfl) hlocks (fun t hAl h1 h2 => xc_T (w := u) (k := 2) 1 rfl rfl (by rw [hf]) hP hD hS h1 h2) hS.2.2 (Nat.le_of_ble_eq_true rfl) (Nat.le_of_ble_eq_true rfl)
  · have hf := hf.trans (if_pos c_12)
    exact thrIAE (is := 60) (text := "the number of feathers or the brim is out of range") hx hb hfl hown (hts (.classLink RX5 58 "java/lang/IllegalArgumentException") (by decide +kernel)) (hts (.initialized "java/lang/IllegalArgumentException") (by decide +kernel)) (fun w hw => hts w (List.mem_cons_of_mem _ (List.mem_append_left _ (List.mem_append_left _ (List.mem_append_right _ hw))))) hX (by decide +kernel) hS (by rw [hml]; exact hl.1) dX5_addGuest_15 dX5_addGuest_18 dX5_addGuest_19 dX5_addGuest_21 dX5_addGuest_24 hxt (Nat.le_of_ble_eq_true rfl) (Nat.le_of_ble_eq_true rfl) (Nat.le_of_ble_eq_true rfl) (Nat.le_of_ble_eq_true rfl) hlocks (fun t hAl h1 h2 => xc_T (w := u) (k := 1) 0 rfl rfl (by rw [hf]) hP hD hS h1 h2) hS.2.2 (Nat.le_of_ble_eq_true rfl) (Nat.le_of_ble_eq_true rfl)
