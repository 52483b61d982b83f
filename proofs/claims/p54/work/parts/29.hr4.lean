/-! the object's methods, on -/
def fX5_brim (u : OS) (x1 : Int32) : Nat × Int32 × OS :=
  (if fX5_requireGuest u x1 = 0 then (0, h1 (og0 u) x1.toNatClampNeg, u) else (fX5_requireGuest u x1, 0, u))
set_option maxHeartbeats 4000000 in
set_option maxRecDepth 100000 in
/-- brim -/
theorem kX5_brim (l : Launch) (hfl : l.stackTraces = false) (D : va_G) (ca : Nat → ClassId) (en ks vs : Nat → Nat) (ai : Nat → Nat → Nat) (ad bd : Nat → Nat) (sz : Nat) (u : OS) (x1 : Int32) (hoi : OI u) : HMet l yX5_brim wsX5_brim ({ frames := 7, cells := 2, slots := 12, locals := 103 }) D ca en ks vs ai ad bd sz u [.ref (ad 0), .int x1] ["java/lang/IndexOutOfBoundsException"] (fX5_brim u x1) := by
  unfold HMet
  refine vx_ofW (cc := cX5_brim) (maxL := 2) (ret := (some .int)) (by decide) rfl ?_
  intro p e s m args below meth c s₁ B hml hxt hv
  obtain ⟨rfl, hsz, hP, hK, hD0, hX⟩ := hv
  have hx := B.exec
  have hb := B.bytes
  have hr := B.returns
  have hts := atoms_spec (ws := wsX5_brim) B.pre
  have hown : s.vm.findClass RX5 = some m.cls := findClass_of_methodNamed B.named
  have hlocks := B.notSynchronized
  have hin5 : ∀ w ∈ wsX50, w ∈ wsX5_brim := by decide +kernel
  have hin3 : ∀ w ∈ wsX30, w ∈ wsX5_brim := by decide +kernel
  have hin := hin5
  subst hsz
  have hD := hD0.self (sz := s.heap.size)
  generalize hAe : va_A (OW ca en ai ad bd u) s.heap.size = A at hD hX ⊢
  have hA : ∀ q : Nat, s.heap.size ≤ q → A q := fun q h => by rw [← hAe]; exact Or.inr h
  have hS : va_S A s.heap s.heap [] := va_S.rf
  have hf : fX5_brim u x1 = fX5_brim u x1 := rfl
  refine W_entry (Nat.le_of_ble_eq_true rfl) (fun ls hl => ?_)
  have hl : lv_has ls 2 [(0, .ref (ad 0)), (1, .int x1)] := hl
  refine lv_aload_n hx hb dX5_brim_0 rfl (lv_at hl 0 rfl) ?_
  refine lv_iload_n hx hb dX5_brim_1 rfl (lv_at hl 1 rfl) ?_
  refine hcCv (names := ["java/lang/IndexOutOfBoundsException"]) (k := fX5_requireGuest u x1) (As := [.int x1]) (rest := []) (wr := []) 0 6 (HX_ok en ks vs) ⟨hx, hb, hml, hown, hts⟩ (kX5_requireGuest l hfl D ca en ks vs ai ad bd _ u x1 hoi) (cwV 1 hts gX5_brim_X5_requireGuest rfl rfl rfl (by decide +kernel) ⟨Nat.le_of_ble_eq_true rfl, Nat.le_of_ble_eq_true rfl⟩) hK hP hD hS hA hX (List.Perm.refl _) rfl rfl rfl hl.1 rfl (Nat.le_of_ble_eq_true rfl) ⟨(Nat.le_of_ble_eq_true rfl), (Nat.le_of_ble_eq_true rfl)⟩ dX5_brim_2 (fun i E9 ce q9 H locs hi hk9 hP hD hS h5 h6 h7 => ?_) (fun H locs z_2 hP hD hS => ?_)
  · have hf := hf.trans (if_neg (show ¬ fX5_requireGuest u x1 = 0 by rw [hk9]; exact Nat.succ_ne_zero i))
    exact vx_out (fun x h => (hxt x h).elim) hlocks h5 h6 h7 (xc_o (w := u) i (pre_get (m := []) hi) hk9 (by rw [hf]) hP hD hS) hS.2.2 (Nat.le_of_ble_eq_true rfl) (Nat.le_of_ble_eq_true rfl)
  · have hf := hf.trans (if_pos z_2)
    have i_2 := rg_in hoi.1.2 z_2
    refine lv_aload_n hx hb dX5_brim_5 rfl (lv_at hl 0 rfl) ?_
    refine va_get (D := D) (ci := 6) (v := .ref (ai 9 8)) (C := RX5) (T := TX5) (N := 10) hx hb hts hin hown hK hP 0 rfl rfl 0 (by decide) (hts (.fieldLink RX5 10 "HatReservations" "hall" "LHatReservations$Hall;") (by decide +kernel)) (fun _ h9 => h9) rfl dX5_brim_6 ?_
    refine va_get (D := D) (ci := 4) (v := .ref (ai 9 1)) (C := RX3) (T := TX3) (N := 15) hx hb hts hin3 hown hK (OP_hall hP) 0 rfl rfl 1 (by decide) (hts (.fieldLink RX5 126 "HatReservations$Hall" "brims" "[I") (by decide +kernel)) (fun _ h9 => h9) rfl dX5_brim_9 ?_
    refine lv_iload_n hx hb dX5_brim_12 rfl (lv_at hl 1 rfl) ?_
    refine va_iald hx hb hK (OP_hall hP) 2 0 rfl rfl i_2 dX5_brim_13 ?_
    refine vx_ret (W.widen (k := 2) (n := 12) (Nat.le_of_ble_eq_true rfl) (Nat.le_of_ble_eq_true rfl) ?_)
    exact W.iret (v := h1 (og0 u) x1.toNatClampNeg) hx hb hr (fun t ht hW => ⟨⟨h1 (og0 u) x1.toNatClampNeg, u, rfl, hf.symm, by rw [ht]; exact hP, va_K.moved hW.alike hK, hD⟩, hS.F ht⟩) hS.2.2 dX5_brim_14
def fX5_isPlaced (u : OS) (x1 : Int32) : Nat × Int32 × OS :=
  (if fX5_requireGuest u x1 = 0 then (0, fX3_hatIsPlaced (og0 u) x1, u) else (fX5_requireGuest u x1, 0, u))
set_option maxHeartbeats 4000000 in
set_option maxRecDepth 100000 in
/-- isPlaced -/
theorem kX5_isPlaced (l : Launch) (hfl : l.stackTraces = false) (D : va_G) (ca : Nat → ClassId) (en ks vs : Nat → Nat) (ai : Nat → Nat → Nat) (ad bd : Nat → Nat) (sz : Nat) (u : OS) (x1 : Int32) (hoi : OI u) : HMet l yX5_isPlaced wsX5_isPlaced ({ frames := 7, cells := 2, slots := 12, locals := 103 }) D ca en ks vs ai ad bd sz u [.ref (ad 0), .int x1] ["java/lang/IndexOutOfBoundsException"] (fX5_isPlaced u x1) := by
  unfold HMet
  refine vx_ofW (cc := cX5_isPlaced) (maxL := 2) (ret := (some .boolean)) (by decide) rfl ?_
  intro p e s m args below meth c s₁ B hml hxt hv
  obtain ⟨rfl, hsz, hP, hK, hD0, hX⟩ := hv
  have hx := B.exec
  have hb := B.bytes
  have hr := B.returns
  have hts := atoms_spec (ws := wsX5_isPlaced) B.pre
  have hown : s.vm.findClass RX5 = some m.cls := findClass_of_methodNamed B.named
  have hlocks := B.notSynchronized
  have hin5 : ∀ w ∈ wsX50, w ∈ wsX5_isPlaced := by decide +kernel
  have hin3 : ∀ w ∈ wsX30, w ∈ wsX5_isPlaced := by decide +kernel
  have hin := hin5
  subst hsz
  have hD := hD0.self (sz := s.heap.size)
  generalize hAe : va_A (OW ca en ai ad bd u) s.heap.size = A at hD hX ⊢
  have hA : ∀ q : Nat, s.heap.size ≤ q → A q := fun q h => by rw [← hAe]; exact Or.inr h
  have hS : va_S A s.heap s.heap [] := va_S.rf
  have hf : fX5_isPlaced u x1 = fX5_isPlaced u x1 := rfl
  refine W_entry (Nat.le_of_ble_eq_true rfl) (fun ls hl => ?_)
  have hl : lv_has ls 2 [(0, .ref (ad 0)), (1, .int x1)] := hl
  refine lv_aload_n hx hb dX5_isPlaced_0 rfl (lv_at hl 0 rfl) ?_
  refine lv_iload_n hx hb dX5_isPlaced_1 rfl (lv_at hl 1 rfl) ?_
  refine hcCv (names := ["java/lang/IndexOutOfBoundsException"]) (k := fX5_requireGuest u x1) (As := [.int x1]) (rest := []) (wr := []) 0 6 (HX_ok en ks vs) ⟨hx, hb, hml, hown, hts⟩ (kX5_requireGuest l hfl D ca en ks vs ai ad bd _ u x1 hoi) (cwV 1 hts gX5_isPlaced_X5_requireGuest rfl rfl rfl (by decide +kernel) ⟨Nat.le_of_ble_eq_true rfl, Nat.le_of_ble_eq_true rfl⟩) hK hP hD hS hA hX (List.Perm.refl _) rfl rfl rfl hl.1 rfl (Nat.le_of_ble_eq_true rfl) ⟨(Nat.le_of_ble_eq_true rfl), (Nat.le_of_ble_eq_true rfl)⟩ dX5_isPlaced_2 (fun i E9 ce q9 H locs hi hk9 hP hD hS h5 h6 h7 => ?_) (fun H locs z_2 hP hD hS => ?_)
  · have hf := hf.trans (if_neg (show ¬ fX5_requireGuest u x1 = 0 by rw [hk9]; exact Nat.succ_ne_zero i))
    exact vx_out (fun x h => (hxt x h).elim) hlocks h5 h6 h7 (xc_o (w := u) i (pre_get (m := []) hi) hk9 (by rw [hf]) hP hD hS) hS.2.2 (Nat.le_of_ble_eq_true rfl) (Nat.le_of_ble_eq_true rfl)
  · have hf := hf.trans (if_pos z_2)
    have i_2 := rg_in hoi.1.2 z_2
    refine lv_aload_n hx hb dX5_isPlaced_5 rfl (lv_at hl 0 rfl) ?_
    refine va_get (D := D) (ci := 6) (v := .ref (ai 9 8)) (C := RX5) (T := TX5) (N := 10) hx hb hts hin hown hK hP 0 rfl rfl 0 (by decide) (hts (.fieldLink RX5 10 "HatReservations" "hall" "LHatReservations$Hall;") (by decide +kernel)) (fun _ h9 => h9) rfl dX5_isPlaced_6 ?_
    refine lv_iload_n hx hb dX5_isPlaced_9 rfl (lv_at hl 1 rfl) ?_
    refine hcRi (As := [.int x1]) (rest := []) 0 4 ⟨hx, hb, hml, hown, hts⟩ (kX3_hatIsPlaced l D ca (ai 9) (og0 u) x1 i_2) (cwV 1 hts gX5_isPlaced_X3_hatIsPlaced rfl rfl rfl (by decide +kernel) ⟨Nat.le_of_ble_eq_true rfl, Nat.le_of_ble_eq_true rfl⟩) hK (OP_hall hP) rfl rfl rfl hl.1 rfl (Nat.le_of_ble_eq_true rfl) ⟨Nat.le_of_ble_eq_true rfl, Nat.le_of_ble_eq_true rfl⟩ dX5_isPlaced_10 ?_
    refine vx_ret (W.widen (k := 2) (n := 12) (Nat.le_of_ble_eq_true rfl) (Nat.le_of_ble_eq_true rfl) ?_)
    exact W.zret (ty := .boolean) (v := fX3_hatIsPlaced (og0 u) x1) hx hb hr nar_hip (fun t ht hW => ⟨⟨fX3_hatIsPlaced (og0 u) x1, u, rfl, hf.symm, by rw [ht]; exact hP, va_K.moved hW.alike hK, hD⟩, hS.F ht⟩) hS.2.2 dX5_isPlaced_13
def fX5_hatChair (u : OS) (x1 : Int32) : Nat × Int32 × OS :=
  (if fX5_requirePlacedHat u x1 = 0 then (0, h2 (og0 u) x1.toNatClampNeg, u) else (fX5_requirePlacedHat u x1, 0, u))
set_option maxHeartbeats 4000000 in
set_option maxRecDepth 100000 in
/-- hatChair -/
theorem kX5_hatChair (l : Launch) (hfl : l.stackTraces = false) (D : va_G) (ca : Nat → ClassId) (en ks vs : Nat → Nat) (ai : Nat → Nat → Nat) (ad bd : Nat → Nat) (sz : Nat) (u : OS) (x1 : Int32) (hoi : OI u) : HMet l yX5_hatChair wsX5_hatChair ({ frames := 7, cells := 2, slots := 12, locals := 104 }) D ca en ks vs ai ad bd sz u [.ref (ad 0), .int x1] ["java/lang/IndexOutOfBoundsException", "java/util/NoSuchElementException"] (fX5_hatChair u x1) := by
  unfold HMet
  refine vx_ofW (cc := cX5_hatChair) (maxL := 2) (ret := (some .int)) (by decide) rfl ?_
  intro p e s m args below meth c s₁ B hml hxt hv
  obtain ⟨rfl, hsz, hP, hK, hD0, hX⟩ := hv
  have hx := B.exec
  have hb := B.bytes
  have hr := B.returns
  have hts := atoms_spec (ws := wsX5_hatChair) B.pre
  have hown : s.vm.findClass RX5 = some m.cls := findClass_of_methodNamed B.named
  have hlocks := B.notSynchronized
  have hin5 : ∀ w ∈ wsX50, w ∈ wsX5_hatChair := by decide +kernel
  have hin3 : ∀ w ∈ wsX30, w ∈ wsX5_hatChair := by decide +kernel
  have hin := hin5
  subst hsz
  have hD := hD0.self (sz := s.heap.size)
  generalize hAe : va_A (OW ca en ai ad bd u) s.heap.size = A at hD hX ⊢
  have hA : ∀ q : Nat, s.heap.size ≤ q → A q := fun q h => by rw [← hAe]; exact Or.inr h
  have hS : va_S A s.heap s.heap [] := va_S.rf
  have hf : fX5_hatChair u x1 = fX5_hatChair u x1 := rfl
  refine W_entry (Nat.le_of_ble_eq_true rfl) (fun ls hl => ?_)
  have hl : lv_has ls 2 [(0, .ref (ad 0)), (1, .int x1)] := hl
  refine lv_aload_n hx hb dX5_hatChair_0 rfl (lv_at hl 0 rfl) ?_
  refine lv_iload_n hx hb dX5_hatChair_1 rfl (lv_at hl 1 rfl) ?_
  refine hcCv (names := ["java/lang/IndexOutOfBoundsException", "java/util/NoSuchElementException"]) (k := fX5_requirePlacedHat u x1) (As := [.int x1]) (rest := []) (wr := []) 0 6 (HX_ok en ks vs) ⟨hx, hb, hml, hown, hts⟩ (kX5_requirePlacedHat l hfl D ca en ks vs ai ad bd _ u x1 hoi) (cwV 1 hts gX5_hatChair_X5_requirePlacedHat rfl rfl rfl (by decide +kernel) ⟨Nat.le_of_ble_eq_true rfl, Nat.le_of_ble_eq_true rfl⟩) hK hP hD hS hA hX (List.Perm.refl _) rfl rfl rfl hl.1 rfl (Nat.le_of_ble_eq_true rfl) ⟨(Nat.le_of_ble_eq_true rfl), (Nat.le_of_ble_eq_true rfl)⟩ dX5_hatChair_2 (fun i E9 ce q9 H locs hi hk9 hP hD hS h5 h6 h7 => ?_) (fun H locs z_2 hP hD hS => ?_)
  · have hf := hf.trans (if_neg (show ¬ fX5_requirePlacedHat u x1 = 0 by rw [hk9]; exact Nat.succ_ne_zero i))
    exact vx_out (fun x h => (hxt x h).elim) hlocks h5 h6 h7 (xc_o (w := u) i (pre_get (m := []) hi) hk9 (by rw [hf]) hP hD hS) hS.2.2 (Nat.le_of_ble_eq_true rfl) (Nat.le_of_ble_eq_true rfl)
  · have hf := hf.trans (if_pos z_2)
    have i_2 := rh_in hoi.1.2 z_2
    refine lv_aload_n hx hb dX5_hatChair_5 rfl (lv_at hl 0 rfl) ?_
    refine va_get (D := D) (ci := 6) (v := .ref (ai 9 8)) (C := RX5) (T := TX5) (N := 10) hx hb hts hin hown hK hP 0 rfl rfl 0 (by decide) (hts (.fieldLink RX5 10 "HatReservations" "hall" "LHatReservations$Hall;") (by decide +kernel)) (fun _ h9 => h9) rfl dX5_hatChair_6 ?_
    refine va_get (D := D) (ci := 4) (v := .ref (ai 9 2)) (C := RX3) (T := TX3) (N := 15) hx hb hts hin3 hown hK (OP_hall hP) 0 rfl rfl 2 (by decide) (hts (.fieldLink RX5 133 "HatReservations$Hall" "hatChairs" "[I") (by decide +kernel)) (fun _ h9 => h9) rfl dX5_hatChair_9 ?_
    refine lv_iload_n hx hb dX5_hatChair_12 rfl (lv_at hl 1 rfl) ?_
    refine va_iald hx hb hK (OP_hall hP) 3 0 rfl rfl i_2 dX5_hatChair_13 ?_
    refine vx_ret (W.widen (k := 2) (n := 12) (Nat.le_of_ble_eq_true rfl) (Nat.le_of_ble_eq_true rfl) ?_)
    exact W.iret (v := h2 (og0 u) x1.toNatClampNeg) hx hb hr (fun t ht hW => ⟨⟨h2 (og0 u) x1.toNatClampNeg, u, rfl, hf.symm, by rw [ht]; exact hP, va_K.moved hW.alike hK, hD⟩, hS.F ht⟩) hS.2.2 dX5_hatChair_14
def fX5_coverSize (u : OS) (x1 : Int32) : Nat × Int32 × OS :=
  (if fX5_requireGuest u x1 = 0 then (0, fX3_coverOf (og0 u) x1, u) else (fX5_requireGuest u x1, 0, u))
set_option maxHeartbeats 4000000 in
set_option maxRecDepth 100000 in
/-- coverSize -/
theorem kX5_coverSize (l : Launch) (hfl : l.stackTraces = false) (D : va_G) (ca : Nat → ClassId) (en ks vs : Nat → Nat) (ai : Nat → Nat → Nat) (ad bd : Nat → Nat) (sz : Nat) (u : OS) (x1 : Int32) (hoi : OI u) : HMet l yX5_coverSize wsX5_coverSize ({ frames := 7, cells := 2, slots := 12, locals := 103 }) D ca en ks vs ai ad bd sz u [.ref (ad 0), .int x1] ["java/lang/IndexOutOfBoundsException"] (fX5_coverSize u x1) := by
  unfold HMet
  refine vx_ofW (cc := cX5_coverSize) (maxL := 2) (ret := (some .int)) (by decide) rfl ?_
  intro p e s m args below meth c s₁ B hml hxt hv
  obtain ⟨rfl, hsz, hP, hK, hD0, hX⟩ := hv
  have hx := B.exec
  have hb := B.bytes
  have hr := B.returns
  have hts := atoms_spec (ws := wsX5_coverSize) B.pre
  have hown : s.vm.findClass RX5 = some m.cls := findClass_of_methodNamed B.named
  have hlocks := B.notSynchronized
  have hin5 : ∀ w ∈ wsX50, w ∈ wsX5_coverSize := by decide +kernel
  have hin3 : ∀ w ∈ wsX30, w ∈ wsX5_coverSize := by decide +kernel
  have hin := hin5
  subst hsz
  have hD := hD0.self (sz := s.heap.size)
  generalize hAe : va_A (OW ca en ai ad bd u) s.heap.size = A at hD hX ⊢
  have hA : ∀ q : Nat, s.heap.size ≤ q → A q := fun q h => by rw [← hAe]; exact Or.inr h
  have hS : va_S A s.heap s.heap [] := va_S.rf
  have hf : fX5_coverSize u x1 = fX5_coverSize u x1 := rfl
  refine W_entry (Nat.le_of_ble_eq_true rfl) (fun ls hl => ?_)
  have hl : lv_has ls 2 [(0, .ref (ad 0)), (1, .int x1)] := hl
  refine lv_aload_n hx hb dX5_coverSize_0 rfl (lv_at hl 0 rfl) ?_
  refine lv_iload_n hx hb dX5_coverSize_1 rfl (lv_at hl 1 rfl) ?_
  refine hcCv (names := ["java/lang/IndexOutOfBoundsException"]) (k := fX5_requireGuest u x1) (As := [.int x1]) (rest := []) (wr := []) 0 6 (HX_ok en ks vs) ⟨hx, hb, hml, hown, hts⟩ (kX5_requireGuest l hfl D ca en ks vs ai ad bd _ u x1 hoi) (cwV 1 hts gX5_coverSize_X5_requireGuest rfl rfl rfl (by decide +kernel) ⟨Nat.le_of_ble_eq_true rfl, Nat.le_of_ble_eq_true rfl⟩) hK hP hD hS hA hX (List.Perm.refl _) rfl rfl rfl hl.1 rfl (Nat.le_of_ble_eq_true rfl) ⟨(Nat.le_of_ble_eq_true rfl), (Nat.le_of_ble_eq_true rfl)⟩ dX5_coverSize_2 (fun i E9 ce q9 H locs hi hk9 hP hD hS h5 h6 h7 => ?_) (fun H locs z_2 hP hD hS => ?_)
  · have hf := hf.trans (if_neg (show ¬ fX5_requireGuest u x1 = 0 by rw [hk9]; exact Nat.succ_ne_zero i))
    exact vx_out (fun x h => (hxt x h).elim) hlocks h5 h6 h7 (xc_o (w := u) i (pre_get (m := []) hi) hk9 (by rw [hf]) hP hD hS) hS.2.2 (Nat.le_of_ble_eq_true rfl) (Nat.le_of_ble_eq_true rfl)
  · have hf := hf.trans (if_pos z_2)
    have i_2 := rg_in hoi.1.2 z_2
    refine lv_aload_n hx hb dX5_coverSize_5 rfl (lv_at hl 0 rfl) ?_
    refine va_get (D := D) (ci := 6) (v := .ref (ai 9 8)) (C := RX5) (T := TX5) (N := 10) hx hb hts hin hown hK hP 0 rfl rfl 0 (by decide) (hts (.fieldLink RX5 10 "HatReservations" "hall" "LHatReservations$Hall;") (by decide +kernel)) (fun _ h9 => h9) rfl dX5_coverSize_6 ?_
    refine lv_iload_n hx hb dX5_coverSize_9 rfl (lv_at hl 1 rfl) ?_
    refine hcRi (As := [.int x1]) (rest := []) 0 4 ⟨hx, hb, hml, hown, hts⟩ (kX3_coverOf l D ca (ai 9) (og0 u) x1 i_2) (cwV 1 hts gX5_coverSize_X3_coverOf rfl rfl rfl (by decide +kernel) ⟨Nat.le_of_ble_eq_true rfl, Nat.le_of_ble_eq_true rfl⟩) hK (OP_hall hP) rfl rfl rfl hl.1 rfl (Nat.le_of_ble_eq_true rfl) ⟨Nat.le_of_ble_eq_true rfl, Nat.le_of_ble_eq_true rfl⟩ dX5_coverSize_10 ?_
    refine vx_ret (W.widen (k := 2) (n := 12) (Nat.le_of_ble_eq_true rfl) (Nat.le_of_ble_eq_true rfl) ?_)
    exact W.iret (v := fX3_coverOf (og0 u) x1) hx hb hr (fun t ht hW => ⟨⟨fX3_coverOf (og0 u) x1, u, rfl, hf.symm, by rw [ht]; exact hP, va_K.moved hW.alike hK, hD⟩, hS.F ht⟩) hS.2.2 dX5_coverSize_13
def fX5_idleMinutes (u : OS) (x1 : Int32) : Nat × Int32 × OS :=
  (if fX5_requirePlacedHat u x1 = 0 then (0, fX3_idleTime (og0 u) x1, u) else (fX5_requirePlacedHat u x1, 0, u))
set_option maxHeartbeats 4000000 in
set_option maxRecDepth 100000 in
/-- idleMinutes -/
theorem kX5_idleMinutes (l : Launch) (hfl : l.stackTraces = false) (D : va_G) (ca : Nat → ClassId) (en ks vs : Nat → Nat) (ai : Nat → Nat → Nat) (ad bd : Nat → Nat) (sz : Nat) (u : OS) (x1 : Int32) (hoi : OI u) : HMet l yX5_idleMinutes wsX5_idleMinutes ({ frames := 7, cells := 2, slots := 12, locals := 104 }) D ca en ks vs ai ad bd sz u [.ref (ad 0), .int x1] ["java/lang/IndexOutOfBoundsException", "java/util/NoSuchElementException"] (fX5_idleMinutes u x1) := by
  unfold HMet
  refine vx_ofW (cc := cX5_idleMinutes) (maxL := 2) (ret := (some .int)) (by decide) rfl ?_
  intro p e s m args below meth c s₁ B hml hxt hv
  obtain ⟨rfl, hsz, hP, hK, hD0, hX⟩ := hv
  have hx := B.exec
  have hb := B.bytes
  have hr := B.returns
  have hts := atoms_spec (ws := wsX5_idleMinutes) B.pre
  have hown : s.vm.findClass RX5 = some m.cls := findClass_of_methodNamed B.named
  have hlocks := B.notSynchronized
  have hin5 : ∀ w ∈ wsX50, w ∈ wsX5_idleMinutes := by decide +kernel
  have hin3 : ∀ w ∈ wsX30, w ∈ wsX5_idleMinutes := by decide +kernel
  have hin := hin5
  subst hsz
  have hD := hD0.self (sz := s.heap.size)
  generalize hAe : va_A (OW ca en ai ad bd u) s.heap.size = A at hD hX ⊢
  have hA : ∀ q : Nat, s.heap.size ≤ q → A q := fun q h => by rw [← hAe]; exact Or.inr h
  have hS : va_S A s.heap s.heap [] := va_S.rf
  have hf : fX5_idleMinutes u x1 = fX5_idleMinutes u x1 := rfl
  refine W_entry (Nat.le_of_ble_eq_true rfl) (fun ls hl => ?_)
  have hl : lv_has ls 2 [(0, .ref (ad 0)), (1, .int x1)] := hl
  refine lv_aload_n hx hb dX5_idleMinutes_0 rfl (lv_at hl 0 rfl) ?_
  refine lv_iload_n hx hb dX5_idleMinutes_1 rfl (lv_at hl 1 rfl) ?_
  refine hcCv (names := ["java/lang/IndexOutOfBoundsException", "java/util/NoSuchElementException"]) (k := fX5_requirePlacedHat u x1) (As := [.int x1]) (rest := []) (wr := []) 0 6 (HX_ok en ks vs) ⟨hx, hb, hml, hown, hts⟩ (kX5_requirePlacedHat l hfl D ca en ks vs ai ad bd _ u x1 hoi) (cwV 1 hts gX5_idleMinutes_X5_requirePlacedHat rfl rfl rfl (by decide +kernel) ⟨Nat.le_of_ble_eq_true rfl, Nat.le_of_ble_eq_true rfl⟩) hK hP hD hS hA hX (List.Perm.refl _) rfl rfl rfl hl.1 rfl (Nat.le_of_ble_eq_true rfl) ⟨(Nat.le_of_ble_eq_true rfl), (Nat.le_of_ble_eq_true rfl)⟩ dX5_idleMinutes_2 (fun i E9 ce q9 H locs hi hk9 hP hD hS h5 h6 h7 => ?_) (fun H locs z_2 hP hD hS => ?_)
  · have hf := hf.trans (if_neg (show ¬ fX5_requirePlacedHat u x1 = 0 by rw [hk9]; exact Nat.succ_ne_zero i))
    exact vx_out (fun x h => (hxt x h).elim) hlocks h5 h6 h7 (xc_o (w := u) i (pre_get (m := []) hi) hk9 (by rw [hf]) hP hD hS) hS.2.2 (Nat.le_of_ble_eq_true rfl) (Nat.le_of_ble_eq_true rfl)
  · have hf := hf.trans (if_pos z_2)
    have i_2 := rh_in hoi.1.2 z_2
    refine lv_aload_n hx hb dX5_idleMinutes_5 rfl (lv_at hl 0 rfl) ?_
    refine va_get (D := D) (ci := 6) (v := .ref (ai 9 8)) (C := RX5) (T := TX5) (N := 10) hx hb hts hin hown hK hP 0 rfl rfl 0 (by decide) (hts (.fieldLink RX5 10 "HatReservations" "hall" "LHatReservations$Hall;") (by decide +kernel)) (fun _ h9 => h9) rfl dX5_idleMinutes_6 ?_
    refine lv_iload_n hx hb dX5_idleMinutes_9 rfl (lv_at hl 1 rfl) ?_
    refine hcRi (As := [.int x1]) (rest := []) 0 4 ⟨hx, hb, hml, hown, hts⟩ (kX3_idleTime l D ca (ai 9) (og0 u) x1 i_2) (cwV 1 hts gX5_idleMinutes_X3_idleTime rfl rfl rfl (by decide +kernel) ⟨Nat.le_of_ble_eq_true rfl, Nat.le_of_ble_eq_true rfl⟩) hK (OP_hall hP) rfl rfl rfl hl.1 rfl (Nat.le_of_ble_eq_true rfl) ⟨Nat.le_of_ble_eq_true rfl, Nat.le_of_ble_eq_true rfl⟩ dX5_idleMinutes_10 ?_
    refine vx_ret (W.widen (k := 2) (n := 12) (Nat.le_of_ble_eq_true rfl) (Nat.le_of_ble_eq_true rfl) ?_)
    exact W.iret (v := fX3_idleTime (og0 u) x1) hx hb hr (fun t ht hW => ⟨⟨fX3_idleTime (og0 u) x1, u, rfl, hf.symm, by rw [ht]; exact hP, va_K.moved hW.alike hK, hD⟩, hS.F ht⟩) hS.2.2 dX5_idleMinutes_13
