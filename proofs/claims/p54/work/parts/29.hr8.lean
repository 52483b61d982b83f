/-! the object's methods, on -/
def fX5_undo (u : OS) : Nat × Int32 × OS :=
  (if (nI (og4 u)) = 0 then (1, 0, u) else (0, (fX4_stepBack (oH u)).1, osH ((fX4_stepBack (oH u)).2) u))
set_option maxHeartbeats 4000000 in
set_option maxRecDepth 100000 in
/-- undo -/
theorem kX5_undo (l : Launch) (hfl : l.stackTraces = false) (D : va_G) (ca : Nat → ClassId) (en ks vs : Nat → Nat) (ai : Nat → Nat → Nat) (ad bd : Nat → Nat) (sz : Nat) (u : OS) (hoi : OI u) : HMet l yX5_undo wsX5_undo ({ frames := 6, cells := 2, slots := 12, locals := 82 }) D ca en ks vs ai ad bd sz u [.ref (ad 0)] ["java/lang/IllegalStateException"] (fX5_undo u) := by
  unfold HMet
  refine vx_ofW (cc := cX5_undo) (maxL := 1) (ret := (some .int)) (by decide) rfl ?_
  intro p e s m args below meth c s₁ B hml hxt hv
  obtain ⟨rfl, hsz, hP, hK, hD0, hX⟩ := hv
  have hx := B.exec
  have hb := B.bytes
  have hr := B.returns
  have hts := atoms_spec (ws := wsX5_undo) B.pre
  have hown : s.vm.findClass RX5 = some m.cls := findClass_of_methodNamed B.named
  have hlocks := B.notSynchronized
  have hin5 : ∀ w ∈ wsX50, w ∈ wsX5_undo := by decide +kernel
  have hin3 : ∀ w ∈ wsX30, w ∈ wsX5_undo := by decide +kernel
  have hin4 : ∀ w ∈ wsX40, w ∈ wsX5_undo := by decide +kernel
  have hin := hin5
  subst hsz
  have hD := hD0.self (sz := s.heap.size)
  generalize hAe : va_A (OW ca en ai ad bd u) s.heap.size = A at hD hX ⊢
  have hA : ∀ q : Nat, s.heap.size ≤ q → A q := fun q h => by rw [← hAe]; exact Or.inr h
  have hS : va_S A s.heap s.heap [] := va_S.rf
  have hf : fX5_undo u = fX5_undo u := rfl
  refine W_entry (Nat.le_of_ble_eq_true rfl) (fun ls hl => ?_)
  have hl : lv_has ls 1 [(0, .ref (ad 0))] := hl
  refine lv_aload_n hx hb dX5_undo_0 rfl (lv_at hl 0 rfl) ?_
  refine va_get (D := D) (ci := 6) (v := .ref (ad 1)) (C := RX5) (T := TX5) (N := 10) hx hb hts hin hown hK hP 0 rfl rfl 2 (by decide) (hts (.fieldLink RX5 22 "HatReservations" "history" "LHatReservations$History;") (by decide +kernel)) (fun _ h9 => h9) rfl dX5_undo_1 ?_
  refine va_get (D := D) (ci := 5) (v := .int (nI (og4 u))) (C := RX4) (T := TX4) (N := 3) hx hb hts hin4 hown hK (OP_hist hP) 0 rfl rfl 2 (by decide) (hts (.fieldLink RX5 339 "HatReservations$History" "count" "I") (by decide +kernel)) (fun _ h9 => h9) rfl dX5_undo_4 ?_
  refine lv_if_ne (tgt := 21) hx hb dX5_undo_7 (by decide) (fun c_7 => ?_) (fun c_7 => ?_)
  · have hf := hf.trans (if_neg c_7)
    refine lv_aload_n hx hb dX5_undo_21 rfl (lv_at hl 0 rfl) ?_
    refine va_get (D := D) (ci := 6) (v := .ref (ad 1)) (C := RX5) (T := TX5) (N := 10) hx hb hts hin hown hK hP 0 rfl rfl 2 (by decide) (hts (.fieldLink RX5 22 "HatReservations" "history" "LHatReservations$History;") (by decide +kernel)) (fun _ h9 => h9) rfl dX5_undo_22 ?_
    refine lv_aload_n hx hb dX5_undo_25 rfl (lv_at hl 0 rfl) ?_
    refine va_get (D := D) (ci := 6) (v := .ref (ai 9 8)) (C := RX5) (T := TX5) (N := 10) hx hb hts hin hown hK hP 0 rfl rfl 0 (by decide) (hts (.fieldLink RX5 10 "HatReservations" "hall" "LHatReservations$Hall;") (by decide +kernel)) (fun _ h9 => h9) rfl dX5_undo_26 ?_
    refine hcMi (As := [.ref (ai 9 8)]) (rest := []) (wr := OR3 ca en ai ad bd u) (f := fun z => HHW ca ai ad z) (F := fX4_stepBack (oH u)) 0 5 ⟨hx, hb, hml, hown, hts⟩ (kX4_stepBack l D ca ai ad _ (oH u) hoi.2.2.2.1 (Nat.pos_of_ne_zero (fun z => c_7 ((congrArg nI z).trans rfl)))) (cwV 1 hts gX5_undo_X4_stepBack rfl rfl rfl (by decide +kernel) ⟨Nat.le_of_ble_eq_true rfl, Nat.le_of_ble_eq_true rfl⟩) hK hP hD hS hA OP3 rfl rfl rfl hl.1 rfl (Nat.le_of_ble_eq_true rfl) ⟨Nat.le_of_ble_eq_true rfl, Nat.le_of_ble_eq_true rfl⟩ dX5_undo_29 (fun H locs hP hD hS => ?_)
    have hP : va_P D vwCl (OW ca en ai ad bd (osH ((fX4_stepBack (oH u)).2) u)) H := P_perm (OP3 (w := (osH ((fX4_stepBack (oH u)).2) u))).symm hP
    have hD : va_D A (OW ca en ai ad bd (osH ((fX4_stepBack (oH u)).2) u)) := D_perm (OP3 (w := (osH ((fX4_stepBack (oH u)).2) u))).symm hD
    refine vx_ret (W.widen (k := 2) (n := 12) (Nat.le_of_ble_eq_true rfl) (Nat.le_of_ble_eq_true rfl) ?_)
    exact W.iret (v := (fX4_stepBack (oH u)).1) hx hb hr (fun t ht hW => ⟨⟨(fX4_stepBack (oH u)).1, (osH ((fX4_stepBack (oH u)).2) u), rfl, hf.symm, by rw [ht]; exact hP, va_K.moved hW.alike hK, hD⟩, hS.F ht⟩) hS.2.2 dX5_undo_32
  · have hf := hf.trans (if_pos c_7)
    exact thrISEW (is := 342) (text := "there is no change to undo") hx hb hfl hown (hts (.classLink RX5 65 "java/lang/IllegalStateException") (by decide +kernel)) (hts (.initialized "java/lang/IllegalStateException") (by decide +kernel)) (fun w hw => hts w (List.mem_cons_of_mem _ (List.mem_append_right _ hw))) hX (by decide +kernel) hS (by rw [hml]; exact hl.1) dX5_undo_10 dX5_undo_13 dX5_undo_14 dX5_undo_17 dX5_undo_20 hxt (Nat.le_of_ble_eq_true rfl) (Nat.le_of_ble_eq_true rfl) (Nat.le_of_ble_eq_true rfl) (Nat.le_of_ble_eq_true rfl) hlocks (fun t hAl h1 h2 => xc_T (w := u) (k := 1) 0 rfl rfl (by rw [hf]) hP hD hS h1 h2) hS.2.2 (Nat.le_of_ble_eq_true rfl) (Nat.le_of_ble_eq_true rfl)
def fX5_save (u : OS) : Int32 × OS :=
  (fX3_countPlaced (og0 (os8 1 (os1 (og0 u) u))), os8 1 (os1 (og0 u) u))
set_option maxHeartbeats 4000000 in
set_option maxRecDepth 100000 in
theorem kX5_save (l : Launch) (D : va_G) (ca : Nat → ClassId) (en ks vs : Nat → Nat) (ai : Nat → Nat → Nat) (ad bd : Nat → Nat) (sz : Nat) (u : OS) : Met l yX5_save wsX5_save ({ frames := 2, cells := 0, slots := 0, locals := 43 }) (MPc D ca sz (OW ca en ai ad bd u) [.ref (ad 0)]) (va_Qi (fun r v => (r, v) = fX5_save u) (MB D ca (va_A (OW ca en ai ad bd u) sz) (fun v => OW ca en ai ad bd v)) (va_A (OW ca en ai ad bd u) sz)) 0 0 (va_A (OW ca en ai ad bd u) sz) := by
  refine Met.ofW (cc := cX5_save) (maxL := 1) (ret := (some .int)) (by decide) rfl ?_
  intro p e s m args below meth c s₁ B hml hv
  obtain ⟨rfl, hsz, hP, hK, hD0⟩ := hv
  have hx := B.exec
  have hb := B.bytes
  have hr := B.returns
  have hts := atoms_spec (ws := wsX5_save) B.pre
  have hown : s.vm.findClass RX5 = some m.cls := findClass_of_methodNamed B.named
  have hlocks := B.notSynchronized
  have hin5 : ∀ w ∈ wsX50, w ∈ wsX5_save := by decide +kernel
  have hin3 : ∀ w ∈ wsX30, w ∈ wsX5_save := by decide +kernel
  have hin := hin5
  subst hsz
  have hD := hD0.self (sz := s.heap.size)
  generalize hAe : va_A (OW ca en ai ad bd u) s.heap.size = A at hD ⊢
  have hA : ∀ q : Nat, s.heap.size ≤ q → A q := fun q h => by rw [← hAe]; exact Or.inr h
  have hS : va_S A s.heap s.heap [] := va_S.rf
  have hf : fX5_save u = fX5_save u := rfl
  refine W_entry (Nat.le_of_ble_eq_true rfl) (fun ls hl => ?_)
  have hl : lv_has ls 1 [(0, .ref (ad 0))] := hl
  refine lv_aload_n hx hb dX5_save_0 rfl (lv_at hl 0 rfl) ?_
  refine va_get (D := D) (ci := 6) (v := .ref (ai 10 8)) (C := RX5) (T := TX5) (N := 10) hx hb hts hin hown hK hP 0 rfl rfl 1 (by decide) (hts (.fieldLink RX5 16 "HatReservations" "snapshot" "LHatReservations$Hall;") (by decide +kernel)) (fun _ h9 => h9) rfl dX5_save_1 ?_
  refine lv_aload_n hx hb dX5_save_4 rfl (lv_at hl 0 rfl) ?_
  refine va_get (D := D) (ci := 6) (v := .ref (ai 9 8)) (C := RX5) (T := TX5) (N := 10) hx hb hts hin hown hK hP 0 rfl rfl 0 (by decide) (hts (.fieldLink RX5 10 "HatReservations" "hall" "LHatReservations$Hall;") (by decide +kernel)) (fun _ h9 => h9) rfl dX5_save_5 ?_
  refine hcMv (As := [.ref (ai 9 8)]) (rest := []) (wr := OR4 ca en ai ad bd u) (f := fun z => HW ca (ai 9) (og0 u) ++ HW ca (ai 10) z) (F := (og0 u)) 9 4 ⟨hx, hb, hml, hown, hts⟩ (kX3_become l D ca (ai 10) (ai 9) _ (og1 u) (og0 u)) (cwV 1 hts gX5_save_X3_become rfl rfl rfl (by decide +kernel) ⟨Nat.le_of_ble_eq_true rfl, Nat.le_of_ble_eq_true rfl⟩) hK hP hD hS hA OP4 rfl rfl rfl hl.1 rfl (Nat.le_of_ble_eq_true rfl) ⟨Nat.le_of_ble_eq_true rfl, Nat.le_of_ble_eq_true rfl⟩ dX5_save_8 (fun H locs hP hD hS => ?_)
  have hP : va_P D vwCl (OW ca en ai ad bd (os1 (og0 u) u)) H := P_perm (OP4 (w := (os1 (og0 u) u))).symm hP
  have hD : va_D A (OW ca en ai ad bd (os1 (og0 u) u)) := D_perm (OP4 (w := (os1 (og0 u) u))).symm hD
  refine lv_aload_n hx hb dX5_save_11 rfl (lv_at hl 0 rfl) ?_
  refine lv_iconst (v := 1) hx hb dX5_save_12 (by decide) ?_
  refine va_put (D := D) (ci := 6) (v := .int 1) (ty := .boolean) (C := RX5) (T := TX5) (N := 10) hx hb hts hin tyX5 tyX5_ok nmX5 hown hK hP hD hS 0 rfl rfl 6 (by decide) (hts (.fieldLink RX5 41 "HatReservations" "hasSnapshot" "Z") (by decide +kernel)) (fun _ h9 => h9) rfl (by decide +kernel) rfl rfl (Nat.le_of_ble_eq_true rfl) dX5_save_13 (fun H locs hP hD hS => ?_)
  have hP : va_P D vwCl (OW ca en ai ad bd (os8 1 (os1 (og0 u) u))) H := hP
  have hD : va_D A (OW ca en ai ad bd (os8 1 (os1 (og0 u) u))) := hD
  refine lv_aload_n hx hb dX5_save_16 rfl (lv_at hl 0 rfl) ?_
  refine va_get (D := D) (ci := 6) (v := .ref (ai 9 8)) (C := RX5) (T := TX5) (N := 10) hx hb hts hin hown hK hP 0 rfl rfl 0 (by decide) (hts (.fieldLink RX5 10 "HatReservations" "hall" "LHatReservations$Hall;") (by decide +kernel)) (fun _ h9 => h9) rfl dX5_save_17 ?_
  refine hcRi (As := []) (rest := []) 0 4 ⟨hx, hb, hml, hown, hts⟩ (kX3_countPlaced l D ca (ai 9) (og0 (os8 1 (os1 (og0 u) u)))  ) (cwV 0 hts gX5_save_X3_countPlaced rfl rfl rfl (by decide +kernel) ⟨Nat.le_of_ble_eq_true rfl, Nat.le_of_ble_eq_true rfl⟩) hK (OP_hall hP) rfl rfl rfl hl.1 rfl (Nat.le_of_ble_eq_true rfl) ⟨Nat.le_of_ble_eq_true rfl, Nat.le_of_ble_eq_true rfl⟩ dX5_save_20 ?_
  exact W.iret (v := fX3_countPlaced (og0 (os8 1 (os1 (og0 u) u)))) hx hb hr (fun t ht hW => ⟨⟨fX3_countPlaced (og0 (os8 1 (os1 (og0 u) u))), os8 1 (os1 (og0 u) u), rfl, hf.symm, by rw [ht]; exact hP, va_K.moved hW.alike hK, hD⟩, hS.F ht⟩) hS.2.2 dX5_save_23
def fX5_restore (u : OS) : Nat × Int32 × OS :=
  (if (og8 u) = 0 then (1, 0, u) else (0, fX3_countPlaced (og0 (osH (fX4_forget (oH (os0 (og1 u) u))) (os0 (og1 u) u))), osH (fX4_forget (oH (os0 (og1 u) u))) (os0 (og1 u) u)))
set_option maxHeartbeats 4000000 in
set_option maxRecDepth 100000 in
/-- restore -/
theorem kX5_restore (l : Launch) (hfl : l.stackTraces = false) (D : va_G) (ca : Nat → ClassId) (en ks vs : Nat → Nat) (ai : Nat → Nat → Nat) (ad bd : Nat → Nat) (sz : Nat) (u : OS) (hoi : OI u) : HMet l yX5_restore wsX5_restore ({ frames := 6, cells := 2, slots := 12, locals := 82 }) D ca en ks vs ai ad bd sz u [.ref (ad 0)] ["java/lang/IllegalStateException"] (fX5_restore u) := by
  unfold HMet
  refine vx_ofW (cc := cX5_restore) (maxL := 1) (ret := (some .int)) (by decide) rfl ?_
  intro p e s m args below meth c s₁ B hml hxt hv
  obtain ⟨rfl, hsz, hP, hK, hD0, hX⟩ := hv
  have hx := B.exec
  have hb := B.bytes
  have hr := B.returns
  have hts := atoms_spec (ws := wsX5_restore) B.pre
  have hown : s.vm.findClass RX5 = some m.cls := findClass_of_methodNamed B.named
  have hlocks := B.notSynchronized
  have hin5 : ∀ w ∈ wsX50, w ∈ wsX5_restore := by decide +kernel
  have hin3 : ∀ w ∈ wsX30, w ∈ wsX5_restore := by decide +kernel
  have hin4 : ∀ w ∈ wsX40, w ∈ wsX5_restore := by decide +kernel
  have hin := hin5
  subst hsz
  have hD := hD0.self (sz := s.heap.size)
  generalize hAe : va_A (OW ca en ai ad bd u) s.heap.size = A at hD hX ⊢
  have hA : ∀ q : Nat, s.heap.size ≤ q → A q := fun q h => by rw [← hAe]; exact Or.inr h
  have hS : va_S A s.heap s.heap [] := va_S.rf
  have hf : fX5_restore u = fX5_restore u := rfl
  refine W_entry (Nat.le_of_ble_eq_true rfl) (fun ls hl => ?_)
  have hl : lv_has ls 1 [(0, .ref (ad 0))] := hl
  refine lv_aload_n hx hb dX5_restore_0 rfl (lv_at hl 0 rfl) ?_
  refine va_get (D := D) (ci := 6) (v := .int (og8 u)) (C := RX5) (T := TX5) (N := 10) hx hb hts hin hown hK hP 0 rfl rfl 6 (by decide) (hts (.fieldLink RX5 41 "HatReservations" "hasSnapshot" "Z") (by decide +kernel)) (fun _ h9 => h9) rfl dX5_restore_1 ?_
  refine lv_if_ne (tgt := 18) hx hb dX5_restore_4 (by decide) (fun c_4 => ?_) (fun c_4 => ?_)
  · have hf := hf.trans (if_neg c_4)
    refine lv_aload_n hx hb dX5_restore_18 rfl (lv_at hl 0 rfl) ?_
    refine va_get (D := D) (ci := 6) (v := .ref (ai 9 8)) (C := RX5) (T := TX5) (N := 10) hx hb hts hin hown hK hP 0 rfl rfl 0 (by decide) (hts (.fieldLink RX5 10 "HatReservations" "hall" "LHatReservations$Hall;") (by decide +kernel)) (fun _ h9 => h9) rfl dX5_restore_19 ?_
    refine lv_aload_n hx hb dX5_restore_22 rfl (lv_at hl 0 rfl) ?_
    refine va_get (D := D) (ci := 6) (v := .ref (ai 10 8)) (C := RX5) (T := TX5) (N := 10) hx hb hts hin hown hK hP 0 rfl rfl 1 (by decide) (hts (.fieldLink RX5 16 "HatReservations" "snapshot" "LHatReservations$Hall;") (by decide +kernel)) (fun _ h9 => h9) rfl dX5_restore_23 ?_
    refine hcMv (As := [.ref (ai 10 8)]) (rest := []) (wr := OR4 ca en ai ad bd u) (f := fun z => HW ca (ai 10) (og1 u) ++ HW ca (ai 9) z) (F := (og1 u)) 9 4 ⟨hx, hb, hml, hown, hts⟩ (kX3_become l D ca (ai 9) (ai 10) _ (og0 u) (og1 u)) (cwV 1 hts gX5_restore_X3_become rfl rfl rfl (by decide +kernel) ⟨Nat.le_of_ble_eq_true rfl, Nat.le_of_ble_eq_true rfl⟩) hK hP hD hS hA OP5 rfl rfl rfl hl.1 rfl (Nat.le_of_ble_eq_true rfl) ⟨Nat.le_of_ble_eq_true rfl, Nat.le_of_ble_eq_true rfl⟩ dX5_restore_26 (fun H locs hP hD hS => ?_)
    have hP : va_P D vwCl (OW ca en ai ad bd (os0 (og1 u) u)) H := P_perm (OP5 (w := (os0 (og1 u) u))).symm hP
    have hD : va_D A (OW ca en ai ad bd (os0 (og1 u) u)) := D_perm (OP5 (w := (os0 (og1 u) u))).symm hD
    refine lv_aload_n hx hb dX5_restore_29 rfl (lv_at hl 0 rfl) ?_
    refine va_get (D := D) (ci := 6) (v := .ref (ad 1)) (C := RX5) (T := TX5) (N := 10) hx hb hts hin hown hK hP 0 rfl rfl 2 (by decide) (hts (.fieldLink RX5 22 "HatReservations" "history" "LHatReservations$History;") (by decide +kernel)) (fun _ h9 => h9) rfl dX5_restore_30 ?_
    refine hcMv (As := []) (rest := []) (wr := OR3 ca en ai ad bd (os0 (og1 u) u)) (f := fun z => HHW ca ai ad z) (F := fX4_forget (oH (os0 (og1 u) u))) 0 5 ⟨hx, hb, hml, hown, hts⟩ (kX4_forget l D ca ai ad _ (oH (os0 (og1 u) u)) ) (cwV 0 hts gX5_restore_X4_forget rfl rfl rfl (by decide +kernel) ⟨Nat.le_of_ble_eq_true rfl, Nat.le_of_ble_eq_true rfl⟩) hK hP hD hS hA OP3 rfl rfl rfl hl.1 rfl (Nat.le_of_ble_eq_true rfl) ⟨Nat.le_of_ble_eq_true rfl, Nat.le_of_ble_eq_true rfl⟩ dX5_restore_33 (fun H locs hP hD hS => ?_)
    have hP : va_P D vwCl (OW ca en ai ad bd (osH (fX4_forget (oH (os0 (og1 u) u))) (os0 (og1 u) u))) H := P_perm (OP3 (w := (osH (fX4_forget (oH (os0 (og1 u) u))) (os0 (og1 u) u)))).symm hP
    have hD : va_D A (OW ca en ai ad bd (osH (fX4_forget (oH (os0 (og1 u) u))) (os0 (og1 u) u))) := D_perm (OP3 (w := (osH (fX4_forget (oH (os0 (og1 u) u))) (os0 (og1 u) u)))).symm hD
    refine lv_aload_n hx hb dX5_restore_36 rfl (lv_at hl 0 rfl) ?_
    refine va_get (D := D) (ci := 6) (v := .ref (ai 9 8)) (C := RX5) (T := TX5) (N := 10) hx hb hts hin hown hK hP 0 rfl rfl 0 (by decide) (hts (.fieldLink RX5 10 "HatReservations" "hall" "LHatReservations$Hall;") (by decide +kernel)) (fun _ h9 => h9) rfl dX5_restore_37 ?_
    refine hcRi (As := []) (rest := []) 0 4 ⟨hx, hb, hml, hown, hts⟩ (kX3_countPlaced l D ca (ai 9) (og0 (osH (fX4_forget (oH (os0 (og1 u) u))) (os0 (og1 u) u)))  ) (cwV 0 hts gX5_restore_X3_countPlaced rfl rfl rfl (by decide +kernel) ⟨Nat.le_of_ble_eq_true rfl, Nat.le_of_ble_eq_true rfl⟩) hK (OP_hall hP) rfl rfl rfl hl.1 rfl (Nat.le_of_ble_eq_true rfl) ⟨Nat.le_of_ble_eq_true rfl, Nat.le_of_ble_eq_true rfl⟩ dX5_restore_40 ?_
    refine vx_ret (W.widen (k := 2) (n := 12) (Nat.le_of_ble_eq_true rfl) (Nat.le_of_ble_eq_true rfl) ?_)
    exact W.iret (v := fX3_countPlaced (og0 (osH (fX4_forget (oH (os0 (og1 u) u))) (os0 (og1 u) u)))) hx hb hr (fun t ht hW => ⟨⟨fX3_countPlaced (og0 (osH (fX4_forget (oH (os0 (og1 u) u))) (os0 (og1 u) u))), (osH (fX4_forget (oH (os0 (og1 u) u))) (os0 (og1 u) u)), rfl, hf.symm, by rw [ht]; exact hP, va_K.moved hW.alike hK, hD⟩, hS.F ht⟩) hS.2.2 dX5_restore_43
  · have hf := hf.trans (if_pos c_4)
    exact thrISEW (is := 351) (text := "there is no snapshot") hx hb hfl hown (hts (.classLink RX5 65 "java/lang/IllegalStateException") (by decide +kernel)) (hts (.initialized "java/lang/IllegalStateException") (by decide +kernel)) (fun w hw => hts w (List.mem_cons_of_mem _ (List.mem_append_left _ (List.mem_append_right _ hw)))) hX (by decide +kernel) hS (by rw [hml]; exact hl.1) dX5_restore_7 dX5_restore_10 dX5_restore_11 dX5_restore_14 dX5_restore_17 hxt (Nat.le_of_ble_eq_true rfl) (Nat.le_of_ble_eq_true rfl) (Nat.le_of_ble_eq_true rfl) (Nat.le_of_ble_eq_true rfl) hlocks (fun t hAl h1 h2 => xc_T (w := u) (k := 1) 0 rfl rfl (by rw [hf]) hP hD hS h1 h2) hS.2.2 (Nat.le_of_ble_eq_true rfl) (Nat.le_of_ble_eq_true rfl)
