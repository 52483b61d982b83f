/-! the object's methods, on -/
def fX5_removeHat (u : OS) (x1 : Int32) : Nat × Int32 × OS :=
  (if fX5_requirePlacedHat u x1 = 0 then (0, (fX3_giveChairsBack (og0 (remO u)) x1).1, os0 (fX3_giveChairsBack (og0 (remO u)) x1).2 (remO u)) else (fX5_requirePlacedHat u x1, 0, u))
set_option maxHeartbeats 4000000 in
set_option maxRecDepth 100000 in
/-- removeHat -/
theorem kX5_removeHat (l : Launch) (hfl : l.stackTraces = false) (D : va_G) (ca : Nat → ClassId) (en ks vs : Nat → Nat) (ai : Nat → Nat → Nat) (ad bd : Nat → Nat) (sz : Nat) (u : OS) (x1 : Int32) (hoi : OI u) : HMet l yX5_removeHat wsX5_removeHat ({ frames := 7, cells := 2, slots := 12, locals := 124 }) D ca en ks vs ai ad bd sz u [.ref (ad 0), .int x1] ["java/lang/IndexOutOfBoundsException", "java/util/NoSuchElementException"] (fX5_removeHat u x1) := by
  unfold HMet
  refine vx_ofW (cc := cX5_removeHat) (maxL := 2) (ret := (some .int)) (by decide) rfl ?_
  intro p e s m args below meth c s₁ B hml hxt hv
  obtain ⟨rfl, hsz, hP, hK, hD0, hX⟩ := hv
  have hx := B.exec
  have hb := B.bytes
  have hr := B.returns
  have hts := atoms_spec (ws := wsX5_removeHat) B.pre
  have hown : s.vm.findClass RX5 = some m.cls := findClass_of_methodNamed B.named
  have hlocks := B.notSynchronized
  have hin5 : ∀ w ∈ wsX50, w ∈ wsX5_removeHat := by decide +kernel
  have hin3 : ∀ w ∈ wsX30, w ∈ wsX5_removeHat := by decide +kernel
  have hin4 : ∀ w ∈ wsX40, w ∈ wsX5_removeHat := by decide +kernel
  have hin := hin5
  subst hsz
  have hD := hD0.self (sz := s.heap.size)
  generalize hAe : va_A (OW ca en ai ad bd u) s.heap.size = A at hD hX ⊢
  have hA : ∀ q : Nat, s.heap.size ≤ q → A q := fun q h => by rw [← hAe]; exact Or.inr h
  have hS : va_S A s.heap s.heap [] := va_S.rf
  have hf : fX5_removeHat u x1 = fX5_removeHat u x1 := rfl
  refine W_entry (Nat.le_of_ble_eq_true rfl) (fun ls hl => ?_)
  have hl : lv_has ls 2 [(0, .ref (ad 0)), (1, .int x1)] := hl
  refine lv_aload_n hx hb dX5_removeHat_0 rfl (lv_at hl 0 rfl) ?_
  refine lv_iload_n hx hb dX5_removeHat_1 rfl (lv_at hl 1 rfl) ?_
  refine hcCv (names := ["java/lang/IndexOutOfBoundsException", "java/util/NoSuchElementException"]) (k := fX5_requirePlacedHat u x1) (As := [.int x1]) (rest := []) (wr := []) 0 6 (HX_ok en ks vs) ⟨hx, hb, hml, hown, hts⟩ (kX5_requirePlacedHat l hfl D ca en ks vs ai ad bd _ u x1 hoi) (cwV 1 hts gX5_removeHat_X5_requirePlacedHat rfl rfl rfl (by decide +kernel) ⟨Nat.le_of_ble_eq_true rfl, Nat.le_of_ble_eq_true rfl⟩) hK hP hD hS hA hX (List.Perm.refl _) rfl rfl rfl hl.1 rfl (Nat.le_of_ble_eq_true rfl) ⟨(Nat.le_of_ble_eq_true rfl), (Nat.le_of_ble_eq_true rfl)⟩ dX5_removeHat_2 (fun i E9 ce q9 H locs hi hk9 hP hD hS h5 h6 h7 => ?_) (fun H locs z_2 hP hD hS => ?_)
  · have hf := hf.trans (if_neg (show ¬ fX5_requirePlacedHat u x1 = 0 by rw [hk9]; exact Nat.succ_ne_zero i))
    exact vx_out (fun x h => (hxt x h).elim) hlocks h5 h6 h7 (xc_o (w := u) i (pre_get (m := []) hi) hk9 (by rw [hf]) hP hD hS) hS.2.2 (Nat.le_of_ble_eq_true rfl) (Nat.le_of_ble_eq_true rfl)
  · have hf := hf.trans (if_pos z_2)
    have i_2 := rh_in hoi.1.2 z_2
    refine lv_aload_n hx hb dX5_removeHat_5 rfl (lv_at hl 0 rfl) ?_
    refine va_get (D := D) (ci := 6) (v := .ref (ad 1)) (C := RX5) (T := TX5) (N := 10) hx hb hts hin hown hK hP 0 rfl rfl 2 (by decide) (hts (.fieldLink RX5 22 "HatReservations" "history" "LHatReservations$History;") (by decide +kernel)) (fun _ h9 => h9) rfl dX5_removeHat_6 ?_
    refine lv_aload_n hx hb dX5_removeHat_9 rfl (lv_at hl 0 rfl) ?_
    refine va_get (D := D) (ci := 6) (v := .ref (ai 9 8)) (C := RX5) (T := TX5) (N := 10) hx hb hts hin hown hK hP 0 rfl rfl 0 (by decide) (hts (.fieldLink RX5 10 "HatReservations" "hall" "LHatReservations$Hall;") (by decide +kernel)) (fun _ h9 => h9) rfl dX5_removeHat_10 ?_
    refine hcMv (As := [.ref (ai 9 8)]) (rest := []) (wr := OR3 ca en ai ad bd u) (f := fun z => HHW ca ai ad z) (F := fX4_remember (oH u)) 0 5 ⟨hx, hb, hml, hown, hts⟩ (kX4_remember l D ca ai ad _ (oH u) hoi.2.2.2.1 hoi.2.2.2.2.1) (cwV 1 hts gX5_removeHat_X4_remember rfl rfl rfl (by decide +kernel) ⟨Nat.le_of_ble_eq_true rfl, Nat.le_of_ble_eq_true rfl⟩) hK hP hD hS hA OP3 rfl rfl rfl hl.1 rfl (Nat.le_of_ble_eq_true rfl) ⟨Nat.le_of_ble_eq_true rfl, Nat.le_of_ble_eq_true rfl⟩ dX5_removeHat_13 (fun H locs hP hD hS => ?_)
    have hP : va_P D vwCl (OW ca en ai ad bd (remO u)) H := P_perm (OP3 (w := (remO u))).symm hP
    have hD : va_D A (OW ca en ai ad bd (remO u)) := D_perm (OP3 (w := (remO u))).symm hD
    refine lv_aload_n hx hb dX5_removeHat_16 rfl (lv_at hl 0 rfl) ?_
    refine va_get (D := D) (ci := 6) (v := .ref (ai 9 8)) (C := RX5) (T := TX5) (N := 10) hx hb hts hin hown hK hP 0 rfl rfl 0 (by decide) (hts (.fieldLink RX5 10 "HatReservations" "hall" "LHatReservations$Hall;") (by decide +kernel)) (fun _ h9 => h9) rfl dX5_removeHat_17 ?_
    refine lv_iload_n hx hb dX5_removeHat_20 rfl (lv_at hl 1 rfl) ?_
    refine hcMi (As := [.int x1]) (rest := []) (wr := OR1 ca en ai ad bd (remO u)) (f := HW ca (ai 9)) (F := fX3_giveChairsBack (og0 (remO u)) x1) 0 4 ⟨hx, hb, hml, hown, hts⟩ (kX3_giveChairsBack l D ca (ai 9) _ (og0 (remO u)) x1 i_2) (cwV 1 hts gX5_removeHat_X3_giveChairsBack rfl rfl rfl (by decide +kernel) ⟨Nat.le_of_ble_eq_true rfl, Nat.le_of_ble_eq_true rfl⟩) hK hP hD hS hA OP1 rfl rfl rfl hl.1 rfl (Nat.le_of_ble_eq_true rfl) ⟨Nat.le_of_ble_eq_true rfl, Nat.le_of_ble_eq_true rfl⟩ dX5_removeHat_21 (fun H locs hP hD hS => ?_)
    have hP : va_P D vwCl (OW ca en ai ad bd (os0 (fX3_giveChairsBack (og0 (remO u)) x1).2 (remO u))) H := P_perm (OP1 (w := (os0 (fX3_giveChairsBack (og0 (remO u)) x1).2 (remO u)))).symm hP
    have hD : va_D A (OW ca en ai ad bd (os0 (fX3_giveChairsBack (og0 (remO u)) x1).2 (remO u))) := D_perm (OP1 (w := (os0 (fX3_giveChairsBack (og0 (remO u)) x1).2 (remO u)))).symm hD
    refine vx_ret (W.widen (k := 2) (n := 12) (Nat.le_of_ble_eq_true rfl) (Nat.le_of_ble_eq_true rfl) ?_)
    exact W.iret (v := (fX3_giveChairsBack (og0 (remO u)) x1).1) hx hb hr (fun t ht hW => ⟨⟨(fX3_giveChairsBack (og0 (remO u)) x1).1, (os0 (fX3_giveChairsBack (og0 (remO u)) x1).2 (remO u)), rfl, hf.symm, by rw [ht]; exact hP, va_K.moved hW.alike hK, hD⟩, hS.F ht⟩) hS.2.2 dX5_removeHat_24
def fX5_touchHat (u : OS) (x1 : Int32) : Nat × Int32 × OS :=
  (if fX5_requirePlacedHat u x1 = 0 then (0, (fX3_startIdleTimeAgain (og0 (remO u)) x1).1, os0 (fX3_startIdleTimeAgain (og0 (remO u)) x1).2 (remO u)) else (fX5_requirePlacedHat u x1, 0, u))
set_option maxHeartbeats 4000000 in
set_option maxRecDepth 100000 in
/-- touchHat -/
theorem kX5_touchHat (l : Launch) (hfl : l.stackTraces = false) (D : va_G) (ca : Nat → ClassId) (en ks vs : Nat → Nat) (ai : Nat → Nat → Nat) (ad bd : Nat → Nat) (sz : Nat) (u : OS) (x1 : Int32) (hoi : OI u) : HMet l yX5_touchHat wsX5_touchHat ({ frames := 7, cells := 2, slots := 12, locals := 104 }) D ca en ks vs ai ad bd sz u [.ref (ad 0), .int x1] ["java/lang/IndexOutOfBoundsException", "java/util/NoSuchElementException"] (fX5_touchHat u x1) := by
  unfold HMet
  refine vx_ofW (cc := cX5_touchHat) (maxL := 2) (ret := (some .int)) (by decide) rfl ?_
  intro p e s m args below meth c s₁ B hml hxt hv
  obtain ⟨rfl, hsz, hP, hK, hD0, hX⟩ := hv
  have hx := B.exec
  have hb := B.bytes
  have hr := B.returns
  have hts := atoms_spec (ws := wsX5_touchHat) B.pre
  have hown : s.vm.findClass RX5 = some m.cls := findClass_of_methodNamed B.named
  have hlocks := B.notSynchronized
  have hin5 : ∀ w ∈ wsX50, w ∈ wsX5_touchHat := by decide +kernel
  have hin3 : ∀ w ∈ wsX30, w ∈ wsX5_touchHat := by decide +kernel
  have hin4 : ∀ w ∈ wsX40, w ∈ wsX5_touchHat := by decide +kernel
  have hin := hin5
  subst hsz
  have hD := hD0.self (sz := s.heap.size)
  generalize hAe : va_A (OW ca en ai ad bd u) s.heap.size = A at hD hX ⊢
  have hA : ∀ q : Nat, s.heap.size ≤ q → A q := fun q h => by rw [← hAe]; exact Or.inr h
  have hS : va_S A s.heap s.heap [] := va_S.rf
  have hf : fX5_touchHat u x1 = fX5_touchHat u x1 := rfl
  refine W_entry (Nat.le_of_ble_eq_true rfl) (fun ls hl => ?_)
  have hl : lv_has ls 2 [(0, .ref (ad 0)), (1, .int x1)] := hl
  refine lv_aload_n hx hb dX5_touchHat_0 rfl (lv_at hl 0 rfl) ?_
  refine lv_iload_n hx hb dX5_touchHat_1 rfl (lv_at hl 1 rfl) ?_
  refine hcCv (names := ["java/lang/IndexOutOfBoundsException", "java/util/NoSuchElementException"]) (k := fX5_requirePlacedHat u x1) (As := [.int x1]) (rest := []) (wr := []) 0 6 (HX_ok en ks vs) ⟨hx, hb, hml, hown, hts⟩ (kX5_requirePlacedHat l hfl D ca en ks vs ai ad bd _ u x1 hoi) (cwV 1 hts gX5_touchHat_X5_requirePlacedHat rfl rfl rfl (by decide +kernel) ⟨Nat.le_of_ble_eq_true rfl, Nat.le_of_ble_eq_true rfl⟩) hK hP hD hS hA hX (List.Perm.refl _) rfl rfl rfl hl.1 rfl (Nat.le_of_ble_eq_true rfl) ⟨(Nat.le_of_ble_eq_true rfl), (Nat.le_of_ble_eq_true rfl)⟩ dX5_touchHat_2 (fun i E9 ce q9 H locs hi hk9 hP hD hS h5 h6 h7 => ?_) (fun H locs z_2 hP hD hS => ?_)
  · have hf := hf.trans (if_neg (show ¬ fX5_requirePlacedHat u x1 = 0 by rw [hk9]; exact Nat.succ_ne_zero i))
    exact vx_out (fun x h => (hxt x h).elim) hlocks h5 h6 h7 (xc_o (w := u) i (pre_get (m := []) hi) hk9 (by rw [hf]) hP hD hS) hS.2.2 (Nat.le_of_ble_eq_true rfl) (Nat.le_of_ble_eq_true rfl)
  · have hf := hf.trans (if_pos z_2)
    have i_2 := rh_in hoi.1.2 z_2
    refine lv_aload_n hx hb dX5_touchHat_5 rfl (lv_at hl 0 rfl) ?_
    refine va_get (D := D) (ci := 6) (v := .ref (ad 1)) (C := RX5) (T := TX5) (N := 10) hx hb hts hin hown hK hP 0 rfl rfl 2 (by decide) (hts (.fieldLink RX5 22 "HatReservations" "history" "LHatReservations$History;") (by decide +kernel)) (fun _ h9 => h9) rfl dX5_touchHat_6 ?_
    refine lv_aload_n hx hb dX5_touchHat_9 rfl (lv_at hl 0 rfl) ?_
    refine va_get (D := D) (ci := 6) (v := .ref (ai 9 8)) (C := RX5) (T := TX5) (N := 10) hx hb hts hin hown hK hP 0 rfl rfl 0 (by decide) (hts (.fieldLink RX5 10 "HatReservations" "hall" "LHatReservations$Hall;") (by decide +kernel)) (fun _ h9 => h9) rfl dX5_touchHat_10 ?_
    refine hcMv (As := [.ref (ai 9 8)]) (rest := []) (wr := OR3 ca en ai ad bd u) (f := fun z => HHW ca ai ad z) (F := fX4_remember (oH u)) 0 5 ⟨hx, hb, hml, hown, hts⟩ (kX4_remember l D ca ai ad _ (oH u) hoi.2.2.2.1 hoi.2.2.2.2.1) (cwV 1 hts gX5_touchHat_X4_remember rfl rfl rfl (by decide +kernel) ⟨Nat.le_of_ble_eq_true rfl, Nat.le_of_ble_eq_true rfl⟩) hK hP hD hS hA OP3 rfl rfl rfl hl.1 rfl (Nat.le_of_ble_eq_true rfl) ⟨Nat.le_of_ble_eq_true rfl, Nat.le_of_ble_eq_true rfl⟩ dX5_touchHat_13 (fun H locs hP hD hS => ?_)
    have hP : va_P D vwCl (OW ca en ai ad bd (remO u)) H := P_perm (OP3 (w := (remO u))).symm hP
    have hD : va_D A (OW ca en ai ad bd (remO u)) := D_perm (OP3 (w := (remO u))).symm hD
    refine lv_aload_n hx hb dX5_touchHat_16 rfl (lv_at hl 0 rfl) ?_
    refine va_get (D := D) (ci := 6) (v := .ref (ai 9 8)) (C := RX5) (T := TX5) (N := 10) hx hb hts hin hown hK hP 0 rfl rfl 0 (by decide) (hts (.fieldLink RX5 10 "HatReservations" "hall" "LHatReservations$Hall;") (by decide +kernel)) (fun _ h9 => h9) rfl dX5_touchHat_17 ?_
    refine lv_iload_n hx hb dX5_touchHat_20 rfl (lv_at hl 1 rfl) ?_
    refine hcMi (As := [.int x1]) (rest := []) (wr := OR1 ca en ai ad bd (remO u)) (f := HW ca (ai 9)) (F := fX3_startIdleTimeAgain (og0 (remO u)) x1) 0 4 ⟨hx, hb, hml, hown, hts⟩ (kX3_startIdleTimeAgain l D ca (ai 9) _ (og0 (remO u)) x1 i_2) (cwV 1 hts gX5_touchHat_X3_startIdleTimeAgain rfl rfl rfl (by decide +kernel) ⟨Nat.le_of_ble_eq_true rfl, Nat.le_of_ble_eq_true rfl⟩) hK hP hD hS hA OP1 rfl rfl rfl hl.1 rfl (Nat.le_of_ble_eq_true rfl) ⟨Nat.le_of_ble_eq_true rfl, Nat.le_of_ble_eq_true rfl⟩ dX5_touchHat_21 (fun H locs hP hD hS => ?_)
    have hP : va_P D vwCl (OW ca en ai ad bd (os0 (fX3_startIdleTimeAgain (og0 (remO u)) x1).2 (remO u))) H := P_perm (OP1 (w := (os0 (fX3_startIdleTimeAgain (og0 (remO u)) x1).2 (remO u)))).symm hP
    have hD : va_D A (OW ca en ai ad bd (os0 (fX3_startIdleTimeAgain (og0 (remO u)) x1).2 (remO u))) := D_perm (OP1 (w := (os0 (fX3_startIdleTimeAgain (og0 (remO u)) x1).2 (remO u)))).symm hD
    refine vx_ret (W.widen (k := 2) (n := 12) (Nat.le_of_ble_eq_true rfl) (Nat.le_of_ble_eq_true rfl) ?_)
    exact W.iret (v := (fX3_startIdleTimeAgain (og0 (remO u)) x1).1) hx hb hr (fun t ht hW => ⟨⟨(fX3_startIdleTimeAgain (og0 (remO u)) x1).1, (os0 (fX3_startIdleTimeAgain (og0 (remO u)) x1).2 (remO u)), rfl, hf.symm, by rw [ht]; exact hP, va_K.moved hW.alike hK, hD⟩, hS.F ht⟩) hS.2.2 dX5_touchHat_24
def fX5_feathers (u : OS) (x1 : Int32) : Nat × Int32 × OS :=
  (if fX5_requireGuest u x1 = 0 then (0, h0 (og0 u) x1.toNatClampNeg, u) else (fX5_requireGuest u x1, 0, u))
set_option maxHeartbeats 4000000 in
set_option maxRecDepth 100000 in
/-- feathers -/
theorem kX5_feathers (l : Launch) (hfl : l.stackTraces = false) (D : va_G) (ca : Nat → ClassId) (en ks vs : Nat → Nat) (ai : Nat → Nat → Nat) (ad bd : Nat → Nat) (sz : Nat) (u : OS) (x1 : Int32) (hoi : OI u) : HMet l yX5_feathers wsX5_feathers ({ frames := 7, cells := 2, slots := 12, locals := 103 }) D ca en ks vs ai ad bd sz u [.ref (ad 0), .int x1] ["java/lang/IndexOutOfBoundsException"] (fX5_feathers u x1) := by
  unfold HMet
  refine vx_ofW (cc := cX5_feathers) (maxL := 2) (ret := (some .int)) (by decide) rfl ?_
  intro p e s m args below meth c s₁ B hml hxt hv
  obtain ⟨rfl, hsz, hP, hK, hD0, hX⟩ := hv
  have hx := B.exec
  have hb := B.bytes
  have hr := B.returns
  have hts := atoms_spec (ws := wsX5_feathers) B.pre
  have hown : s.vm.findClass RX5 = some m.cls := findClass_of_methodNamed B.named
  have hlocks := B.notSynchronized
  have hin5 : ∀ w ∈ wsX50, w ∈ wsX5_feathers := by decide +kernel
  have hin3 : ∀ w ∈ wsX30, w ∈ wsX5_feathers := by decide +kernel
  have hin := hin5
  subst hsz
  have hD := hD0.self (sz := s.heap.size)
  generalize hAe : va_A (OW ca en ai ad bd u) s.heap.size = A at hD hX ⊢
  have hA : ∀ q : Nat, s.heap.size ≤ q → A q := fun q h => by rw [← hAe]; exact Or.inr h
  have hS : va_S A s.heap s.heap [] := va_S.rf
  have hf : fX5_feathers u x1 = fX5_feathers u x1 := rfl
  refine W_entry (Nat.le_of_ble_eq_true rfl) (fun ls hl => ?_)
  have hl : lv_has ls 2 [(0, .ref (ad 0)), (1, .int x1)] := hl
  refine lv_aload_n hx hb dX5_feathers_0 rfl (lv_at hl 0 rfl) ?_
  refine lv_iload_n hx hb dX5_feathers_1 rfl (lv_at hl 1 rfl) ?_
  refine hcCv (names := ["java/lang/IndexOutOfBoundsException"]) (k := fX5_requireGuest u x1) (As := [.int x1]) (rest := []) (wr := []) 0 6 (HX_ok en ks vs) ⟨hx, hb, hml, hown, hts⟩ (kX5_requireGuest l hfl D ca en ks vs ai ad bd _ u x1 hoi) (cwV 1 hts gX5_feathers_X5_requireGuest rfl rfl rfl (by decide +kernel) ⟨Nat.le_of_ble_eq_true rfl, Nat.le_of_ble_eq_true rfl⟩) hK hP hD hS hA hX (List.Perm.refl _) rfl rfl rfl hl.1 rfl (Nat.le_of_ble_eq_true rfl) ⟨(Nat.le_of_ble_eq_true rfl), (Nat.le_of_ble_eq_true rfl)⟩ dX5_feathers_2 (fun i E9 ce q9 H locs hi hk9 hP hD hS h5 h6 h7 => ?_) (fun H locs z_2 hP hD hS => ?_)
  · have hf := hf.trans (if_neg (show ¬ fX5_requireGuest u x1 = 0 by rw [hk9]; exact Nat.succ_ne_zero i))
    exact vx_out (fun x h => (hxt x h).elim) hlocks h5 h6 h7 (xc_o (w := u) i (pre_get (m := []) hi) hk9 (by rw [hf]) hP hD hS) hS.2.2 (Nat.le_of_ble_eq_true rfl) (Nat.le_of_ble_eq_true rfl)
  · have hf := hf.trans (if_pos z_2)
    have i_2 := rg_in hoi.1.2 z_2
    refine lv_aload_n hx hb dX5_feathers_5 rfl (lv_at hl 0 rfl) ?_
    refine va_get (D := D) (ci := 6) (v := .ref (ai 9 8)) (C := RX5) (T := TX5) (N := 10) hx hb hts hin hown hK hP 0 rfl rfl 0 (by decide) (hts (.fieldLink RX5 10 "HatReservations" "hall" "LHatReservations$Hall;") (by decide +kernel)) (fun _ h9 => h9) rfl dX5_feathers_6 ?_
    refine va_get (D := D) (ci := 4) (v := .ref (ai 9 0)) (C := RX3) (T := TX3) (N := 15) hx hb hts hin3 hown hK (OP_hall hP) 0 rfl rfl 0 (by decide) (hts (.fieldLink RX5 122 "HatReservations$Hall" "feathers" "[I") (by decide +kernel)) (fun _ h9 => h9) rfl dX5_feathers_9 ?_
    refine lv_iload_n hx hb dX5_feathers_12 rfl (lv_at hl 1 rfl) ?_
    refine va_iald hx hb hK (OP_hall hP) 1 0 rfl rfl i_2 dX5_feathers_13 ?_
    refine vx_ret (W.widen (k := 2) (n := 12) (Nat.le_of_ble_eq_true rfl) (Nat.le_of_ble_eq_true rfl) ?_)
    exact W.iret (v := h0 (og0 u) x1.toNatClampNeg) hx hb hr (fun t ht hW => ⟨⟨h0 (og0 u) x1.toNatClampNeg, u, rfl, hf.symm, by rw [ht]; exact hP, va_K.moved hW.alike hK, hD⟩, hS.F ht⟩) hS.2.2 dX5_feathers_14
