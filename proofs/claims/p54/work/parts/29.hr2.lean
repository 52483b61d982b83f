/-! the object's methods, on -/
def fX5_giveFeather (u : OS) (x1 : Int32) : Nat × Int32 × OS :=
  (if (fX3_refusalOfFeather (og0 u) x1) = 1 then (1, 0, u) else (if (fX3_refusalOfFeather (og0 u) x1) = 0 then (0, (fX3_gainFeather (og0 (remO u)) x1).1, os0 (fX3_gainFeather (og0 (remO u)) x1).2 (remO u)) else (2, 0, u)))
set_option maxHeartbeats 4000000 in
set_option maxRecDepth 100000 in
/-- giveFeather -/
theorem kX5_giveFeather (l : Launch) (hfl : l.stackTraces = false) (D : va_G) (ca : Nat → ClassId) (en ks vs : Nat → Nat) (ai : Nat → Nat → Nat) (ad bd : Nat → Nat) (sz : Nat) (u : OS) (x1 : Int32) (hoi : OI u) : HMet l yX5_giveFeather wsX5_giveFeather ({ frames := 6, cells := 2, slots := 12, locals := 82 }) D ca en ks vs ai ad bd sz u [.ref (ad 0), .int x1] ["java/lang/IndexOutOfBoundsException", "java/lang/IllegalStateException"] (fX5_giveFeather u x1) := by
  unfold HMet
  refine vx_ofW (cc := cX5_giveFeather) (maxL := 3) (ret := (some .int)) (by decide) rfl ?_
  intro p e s m args below meth c s₁ B hml hxt hv
  obtain ⟨rfl, hsz, hP, hK, hD0, hX⟩ := hv
  have hx := B.exec
  have hb := B.bytes
  have hr := B.returns
  have hts := atoms_spec (ws := wsX5_giveFeather) B.pre
  have hown : s.vm.findClass RX5 = some m.cls := findClass_of_methodNamed B.named
  have hlocks := B.notSynchronized
  have hin5 : ∀ w ∈ wsX50, w ∈ wsX5_giveFeather := by decide +kernel
  have hin3 : ∀ w ∈ wsX30, w ∈ wsX5_giveFeather := by decide +kernel
  have hin4 : ∀ w ∈ wsX40, w ∈ wsX5_giveFeather := by decide +kernel
  have hin := hin5
  subst hsz
  have hD := hD0.self (sz := s.heap.size)
  generalize hAe : va_A (OW ca en ai ad bd u) s.heap.size = A at hD hX ⊢
  have hA : ∀ q : Nat, s.heap.size ≤ q → A q := fun q h => by rw [← hAe]; exact Or.inr h
  have hS : va_S A s.heap s.heap [] := va_S.rf
  have hf : fX5_giveFeather u x1 = fX5_giveFeather u x1 := rfl
  refine W_entry (Nat.le_of_ble_eq_true rfl) (fun ls hl => ?_)
  have hl : lv_has ls 3 [(0, .ref (ad 0)), (1, .int x1)] := hl
  refine lv_aload_n hx hb dX5_giveFeather_0 rfl (lv_at hl 0 rfl) ?_
  refine va_get (D := D) (ci := 6) (v := .ref (ai 9 8)) (C := RX5) (T := TX5) (N := 10) hx hb hts hin hown hK hP 0 rfl rfl 0 (by decide) (hts (.fieldLink RX5 10 "HatReservations" "hall" "LHatReservations$Hall;") (by decide +kernel)) (fun _ h9 => h9) rfl dX5_giveFeather_1 ?_
  refine lv_iload_n hx hb dX5_giveFeather_4 rfl (lv_at hl 1 rfl) ?_
  refine hcRi (As := [.int x1]) (rest := []) 0 4 ⟨hx, hb, hml, hown, hts⟩ (kX3_refusalOfFeather l D ca (ai 9) (og0 u) x1 hoi.1.2) (cwV 1 hts gX5_giveFeather_X3_refusalOfFeather rfl rfl rfl (by decide +kernel) ⟨Nat.le_of_ble_eq_true rfl, Nat.le_of_ble_eq_true rfl⟩) hK (OP_hall hP) rfl rfl rfl hl.1 rfl (Nat.le_of_ble_eq_true rfl) ⟨Nat.le_of_ble_eq_true rfl, Nat.le_of_ble_eq_true rfl⟩ dX5_giveFeather_5 ?_
  refine lv_istore_n (lv' := [(2, .int (fX3_refusalOfFeather (og0 u) x1)), (0, .ref (ad 0)), (1, .int x1)]) hx hb dX5_giveFeather_8 rfl hl (by decide) rfl (fun ls hl => ?_)
  refine lv_iload_n hx hb dX5_giveFeather_9 rfl (lv_at hl 0 rfl) ?_
  refine lv_iconst (v := 1) hx hb dX5_giveFeather_10 (by decide) ?_
  refine lv_icmp_ne (tgt := 24) hx hb dX5_giveFeather_11 (by decide) (fun c_11 => ?_) (fun c_11 => ?_)
  · have hf := hf.trans (if_neg c_11)
    refine lv_iload_n hx hb dX5_giveFeather_24 rfl (lv_at hl 0 rfl) ?_
    refine lv_if_eq (tgt := 38) hx hb dX5_giveFeather_25 (by decide) (fun c_25 => ?_) (fun c_25 => ?_)
    · have hf := hf.trans (if_pos c_25)
      refine lv_aload_n hx hb dX5_giveFeather_38 rfl (lv_at hl 1 rfl) ?_
      refine va_get (D := D) (ci := 6) (v := .ref (ad 1)) (C := RX5) (T := TX5) (N := 10) hx hb hts hin hown hK hP 0 rfl rfl 2 (by decide) (hts (.fieldLink RX5 22 "HatReservations" "history" "LHatReservations$History;") (by decide +kernel)) (fun _ h9 => h9) rfl dX5_giveFeather_39 ?_
      refine lv_aload_n hx hb dX5_giveFeather_42 rfl (lv_at hl 1 rfl) ?_
      refine va_get (D := D) (ci := 6) (v := .ref (ai 9 8)) (C := RX5) (T := TX5) (N := 10) hx hb hts hin hown hK hP 0 rfl rfl 0 (by decide) (hts (.fieldLink RX5 10 "HatReservations" "hall" "LHatReservations$Hall;") (by decide +kernel)) (fun _ h9 => h9) rfl dX5_giveFeather_43 ?_
      refine hcMv (As := [.ref (ai 9 8)]) (rest := []) (wr := OR3 ca en ai ad bd u) (f := fun z => HHW ca ai ad z) (F := fX4_remember (oH u)) 0 5 ⟨hx, hb, hml, hown, hts⟩ (kX4_remember l D ca ai ad _ (oH u) hoi.2.2.2.1 hoi.2.2.2.2.1) (cwV 1 hts gX5_giveFeather_X4_remember rfl rfl rfl (by decide +kernel) ⟨Nat.le_of_ble_eq_true rfl, Nat.le_of_ble_eq_true rfl⟩) hK hP hD hS hA OP3 rfl rfl rfl hl.1 rfl (Nat.le_of_ble_eq_true rfl) ⟨Nat.le_of_ble_eq_true rfl, Nat.le_of_ble_eq_true rfl⟩ dX5_giveFeather_46 (fun H locs hP hD hS => ?_)
      have hP : va_P D vwCl (OW ca en ai ad bd (remO u)) H := P_perm (OP3 (w := (remO u))).symm hP
      have hD : va_D A (OW ca en ai ad bd (remO u)) := D_perm (OP3 (w := (remO u))).symm hD
      refine lv_aload_n hx hb dX5_giveFeather_49 rfl (lv_at hl 1 rfl) ?_
      refine va_get (D := D) (ci := 6) (v := .ref (ai 9 8)) (C := RX5) (T := TX5) (N := 10) hx hb hts hin hown hK hP 0 rfl rfl 0 (by decide) (hts (.fieldLink RX5 10 "HatReservations" "hall" "LHatReservations$Hall;") (by decide +kernel)) (fun _ h9 => h9) rfl dX5_giveFeather_50 ?_
      refine lv_iload_n hx hb dX5_giveFeather_53 rfl (lv_at hl 2 rfl) ?_
      refine hcMi (As := [.int x1]) (rest := []) (wr := OR1 ca en ai ad bd (remO u)) (f := HW ca (ai 9)) (F := fX3_gainFeather (og0 (remO u)) x1) 0 4 ⟨hx, hb, hml, hown, hts⟩ (kX3_gainFeather l D ca (ai 9) _ (og0 (remO u)) x1 (feather_ok hoi.1.2 c_25)) (cwV 1 hts gX5_giveFeather_X3_gainFeather rfl rfl rfl (by decide +kernel) ⟨Nat.le_of_ble_eq_true rfl, Nat.le_of_ble_eq_true rfl⟩) hK hP hD hS hA OP1 rfl rfl rfl hl.1 rfl (Nat.le_of_ble_eq_true rfl) ⟨Nat.le_of_ble_eq_true rfl, Nat.le_of_ble_eq_true rfl⟩ dX5_giveFeather_54 (fun H locs hP hD hS => ?_)
      have hP : va_P D vwCl (OW ca en ai ad bd (os0 (fX3_gainFeather (og0 (remO u)) x1).2 (remO u))) H := P_perm (OP1 (w := (os0 (fX3_gainFeather (og0 (remO u)) x1).2 (remO u)))).symm hP
      have hD : va_D A (OW ca en ai ad bd (os0 (fX3_gainFeather (og0 (remO u)) x1).2 (remO u))) := D_perm (OP1 (w := (os0 (fX3_gainFeather (og0 (remO u)) x1).2 (remO u)))).symm hD
      refine vx_ret (W.widen (k := 2) (n := 12) (Nat.le_of_ble_eq_true rfl) (Nat.le_of_ble_eq_true rfl) ?_)
      exact W.iret (v := (fX3_gainFeather (og0 (remO u)) x1).1) hx hb hr (fun t ht hW => ⟨⟨(fX3_gainFeather (og0 (remO u)) x1).1, (os0 (fX3_gainFeather (og0 (remO u)) x1).2 (remO u)), rfl, hf.symm, by rw [ht]; exact hP, va_K.moved hW.alike hK, hD⟩, hS.F ht⟩) hS.2.2 dX5_giveFeather_57
    · have hf := hf.trans (if_neg c_25)
      exact thrISE (is := 86) (text := "the guest has 9 feathers") hx hb hfl hown (hts (.classLink RX5 65 "java/lang/IllegalStateException") (by decide +kernel)) (hts (.initialized "java/lang/IllegalStateException") (by decide +kernel)) (fun w hw => hts w (List.mem_cons_of_mem _ (List.mem_append_left _ (List.mem_append_right _ hw)))) hX (by decide +kernel) hS (by rw [hml]; exact hl.1) dX5_giveFeather_28 dX5_giveFeather_31 dX5_giveFeather_32 dX5_giveFeather_34 dX5_giveFeather_37 hxt (Nat.le_of_ble_eq_true rfl) (Nat.le_of_ble_eq_true rfl) (Nat.le_of_ble_eq_true rfl) (Nat.le_of_ble_eq_true rfl) hlocks (fun t hAl h1 h2 => xc_T (w := u) (k := 2) 1 rfl rfl (by rw [hf]) hP hD hS h1 h2) hS.2.2 (Nat.le_of_ble_eq_true rfl) (Nat.le_of_ble_eq_true rfl)
  · have hf := hf.trans (if_pos c_11)
    exact thrIOB (is := 83) (text := "no such guest") hx hb hfl hown (hts (.classLink RX5 81 "java/lang/IndexOutOfBoundsException") (by decide +kernel)) (hts (.initialized "java/lang/IndexOutOfBoundsException") (by decide +kernel)) (fun w hw => hts w (List.mem_cons_of_mem _ (List.mem_append_left _ (List.mem_append_left _ (List.mem_append_right _ hw))))) hX (by decide +kernel) hS (by rw [hml]; exact hl.1) dX5_giveFeather_14 dX5_giveFeather_17 dX5_giveFeather_18 dX5_giveFeather_20 dX5_giveFeather_23 hxt (Nat.le_of_ble_eq_true rfl) (Nat.le_of_ble_eq_true rfl) (Nat.le_of_ble_eq_true rfl) (Nat.le_of_ble_eq_true rfl) hlocks (fun t hAl h1 h2 => xc_T (w := u) (k := 1) 0 rfl rfl (by rw [hf]) hP hD hS h1 h2) hS.2.2 (Nat.le_of_ble_eq_true rfl) (Nat.le_of_ble_eq_true rfl)
def fX5_placeHat (u : OS) (x1 : Int32) (x2 : Int32) : Nat × Int32 × OS :=
  (if (fX3_refusalOfHat (og0 u) x1 x2) = 1 then (1, 0, u) else (if (fX3_refusalOfHat (og0 u) x1 x2) = 2 then (2, 0, u) else (if (fX3_refusalOfHat (og0 u) x1 x2) = 0 then (0, (fX3_putHat (og0 (remO u)) x1 x2).1, os0 (fX3_putHat (og0 (remO u)) x1 x2).2 (remO u)) else (3, 0, u))))
set_option maxHeartbeats 4000000 in
set_option maxRecDepth 100000 in
/-- placeHat -/
theorem kX5_placeHat (l : Launch) (hfl : l.stackTraces = false) (D : va_G) (ca : Nat → ClassId) (en ks vs : Nat → Nat) (ai : Nat → Nat → Nat) (ad bd : Nat → Nat) (sz : Nat) (u : OS) (x1 : Int32) (x2 : Int32) (hoi : OI u) : HMet l yX5_placeHat wsX5_placeHat ({ frames := 6, cells := 2, slots := 12, locals := 82 }) D ca en ks vs ai ad bd sz u [.ref (ad 0), .int x1, .int x2] ["java/lang/IndexOutOfBoundsException", "java/lang/IllegalStateException", "java/lang/UnsupportedOperationException"] (fX5_placeHat u x1 x2) := by
  unfold HMet
  refine vx_ofW (cc := cX5_placeHat) (maxL := 4) (ret := (some .int)) (by decide) rfl ?_
  intro p e s m args below meth c s₁ B hml hxt hv
  obtain ⟨rfl, hsz, hP, hK, hD0, hX⟩ := hv
  have hx := B.exec
  have hb := B.bytes
  have hr := B.returns
  have hts := atoms_spec (ws := wsX5_placeHat) B.pre
  have hown : s.vm.findClass RX5 = some m.cls := findClass_of_methodNamed B.named
  have hlocks := B.notSynchronized
  have hin5 : ∀ w ∈ wsX50, w ∈ wsX5_placeHat := by decide +kernel
  have hin3 : ∀ w ∈ wsX30, w ∈ wsX5_placeHat := by decide +kernel
  have hin4 : ∀ w ∈ wsX40, w ∈ wsX5_placeHat := by decide +kernel
  have hin := hin5
  subst hsz
  have hD := hD0.self (sz := s.heap.size)
  generalize hAe : va_A (OW ca en ai ad bd u) s.heap.size = A at hD hX ⊢
  have hA : ∀ q : Nat, s.heap.size ≤ q → A q := fun q h => by rw [← hAe]; exact Or.inr h
  have hS : va_S A s.heap s.heap [] := va_S.rf
  have hf : fX5_placeHat u x1 x2 = fX5_placeHat u x1 x2 := rfl
  refine W_entry (Nat.le_of_ble_eq_true rfl) (fun ls hl => ?_)
  have hl : lv_has ls 4 [(0, .ref (ad 0)), (1, .int x1), (2, .int x2)] := hl
  refine lv_aload_n hx hb dX5_placeHat_0 rfl (lv_at hl 0 rfl) ?_
  refine va_get (D := D) (ci := 6) (v := .ref (ai 9 8)) (C := RX5) (T := TX5) (N := 10) hx hb hts hin hown hK hP 0 rfl rfl 0 (by decide) (hts (.fieldLink RX5 10 "HatReservations" "hall" "LHatReservations$Hall;") (by decide +kernel)) (fun _ h9 => h9) rfl dX5_placeHat_1 ?_
  refine lv_iload_n hx hb dX5_placeHat_4 rfl (lv_at hl 1 rfl) ?_
  refine lv_iload_n hx hb dX5_placeHat_5 rfl (lv_at hl 2 rfl) ?_
  refine hcRi (As := [.int x1, .int x2]) (rest := []) 0 4 ⟨hx, hb, hml, hown, hts⟩ (kX3_refusalOfHat l D ca (ai 9) (og0 u) x1 x2 hoi.1.2) (cwV 2 hts gX5_placeHat_X3_refusalOfHat rfl rfl rfl (by decide +kernel) ⟨Nat.le_of_ble_eq_true rfl, Nat.le_of_ble_eq_true rfl⟩) hK (OP_hall hP) rfl rfl rfl hl.1 rfl (Nat.le_of_ble_eq_true rfl) ⟨Nat.le_of_ble_eq_true rfl, Nat.le_of_ble_eq_true rfl⟩ dX5_placeHat_6 ?_
  refine lv_istore_n (lv' := [(3, .int (fX3_refusalOfHat (og0 u) x1 x2)), (0, .ref (ad 0)), (1, .int x1), (2, .int x2)]) hx hb dX5_placeHat_9 rfl hl (by decide) rfl (fun ls hl => ?_)
  refine lv_iload_n hx hb dX5_placeHat_10 rfl (lv_at hl 0 rfl) ?_
  refine lv_iconst (v := 1) hx hb dX5_placeHat_11 (by decide) ?_
  refine lv_icmp_ne (tgt := 25) hx hb dX5_placeHat_12 (by decide) (fun c_12 => ?_) (fun c_12 => ?_)
  · have hf := hf.trans (if_neg c_12)
    refine lv_iload_n hx hb dX5_placeHat_25 rfl (lv_at hl 0 rfl) ?_
    refine lv_iconst (v := 2) hx hb dX5_placeHat_26 (by decide) ?_
    refine lv_icmp_ne (tgt := 40) hx hb dX5_placeHat_27 (by decide) (fun c_27 => ?_) (fun c_27 => ?_)
    · have hf := hf.trans (if_neg c_27)
      refine lv_iload_n hx hb dX5_placeHat_40 rfl (lv_at hl 0 rfl) ?_
      refine lv_if_eq (tgt := 54) hx hb dX5_placeHat_41 (by decide) (fun c_41 => ?_) (fun c_41 => ?_)
      · have hf := hf.trans (if_pos c_41)
        refine lv_aload_n hx hb dX5_placeHat_54 rfl (lv_at hl 1 rfl) ?_
        refine va_get (D := D) (ci := 6) (v := .ref (ad 1)) (C := RX5) (T := TX5) (N := 10) hx hb hts hin hown hK hP 0 rfl rfl 2 (by decide) (hts (.fieldLink RX5 22 "HatReservations" "history" "LHatReservations$History;") (by decide +kernel)) (fun _ h9 => h9) rfl dX5_placeHat_55 ?_
        refine lv_aload_n hx hb dX5_placeHat_58 rfl (lv_at hl 1 rfl) ?_
        refine va_get (D := D) (ci := 6) (v := .ref (ai 9 8)) (C := RX5) (T := TX5) (N := 10) hx hb hts hin hown hK hP 0 rfl rfl 0 (by decide) (hts (.fieldLink RX5 10 "HatReservations" "hall" "LHatReservations$Hall;") (by decide +kernel)) (fun _ h9 => h9) rfl dX5_placeHat_59 ?_
        refine hcMv (As := [.ref (ai 9 8)]) (rest := []) (wr := OR3 ca en ai ad bd u) (f := fun z => HHW ca ai ad z) (F := fX4_remember (oH u)) 0 5 ⟨hx, hb, hml, hown, hts⟩ (kX4_remember l D ca ai ad _ (oH u) hoi.2.2.2.1 hoi.2.2.2.2.1) (cwV 1 hts gX5_placeHat_X4_remember rfl rfl rfl (by decide +kernel) ⟨Nat.le_of_ble_eq_true rfl, Nat.le_of_ble_eq_true rfl⟩) hK hP hD hS hA OP3 rfl rfl rfl hl.1 rfl (Nat.le_of_ble_eq_true rfl) ⟨Nat.le_of_ble_eq_true rfl, Nat.le_of_ble_eq_true rfl⟩ dX5_placeHat_62 (fun H locs hP hD hS => ?_)
        have hP : va_P D vwCl (OW ca en ai ad bd (remO u)) H := P_perm (OP3 (w := (remO u))).symm hP
        have hD : va_D A (OW ca en ai ad bd (remO u)) := D_perm (OP3 (w := (remO u))).symm hD
        refine lv_aload_n hx hb dX5_placeHat_65 rfl (lv_at hl 1 rfl) ?_
        refine va_get (D := D) (ci := 6) (v := .ref (ai 9 8)) (C := RX5) (T := TX5) (N := 10) hx hb hts hin hown hK hP 0 rfl rfl 0 (by decide) (hts (.fieldLink RX5 10 "HatReservations" "hall" "LHatReservations$Hall;") (by decide +kernel)) (fun _ h9 => h9) rfl dX5_placeHat_66 ?_
        refine lv_iload_n hx hb dX5_placeHat_69 rfl (lv_at hl 2 rfl) ?_
        refine lv_iload_n hx hb dX5_placeHat_70 rfl (lv_at hl 3 rfl) ?_
        refine hcMi (As := [.int x1, .int x2]) (rest := []) (wr := OR1 ca en ai ad bd (remO u)) (f := HW ca (ai 9)) (F := fX3_putHat (og0 (remO u)) x1 x2) 0 4 ⟨hx, hb, hml, hown, hts⟩ (kX3_putHat l D ca (ai 9) _ (og0 (remO u)) x1 x2 (hat_ok hoi.1.2 c_41).1 (hat_ok hoi.1.2 c_41).2) (cwV 2 hts gX5_placeHat_X3_putHat rfl rfl rfl (by decide +kernel) ⟨Nat.le_of_ble_eq_true rfl, Nat.le_of_ble_eq_true rfl⟩) hK hP hD hS hA OP1 rfl rfl rfl hl.1 rfl (Nat.le_of_ble_eq_true rfl) ⟨Nat.le_of_ble_eq_true rfl, Nat.le_of_ble_eq_true rfl⟩ dX5_placeHat_71 (fun H locs hP hD hS => ?_)
        have hP : va_P D vwCl (OW ca en ai ad bd (os0 (fX3_putHat (og0 (remO u)) x1 x2).2 (remO u))) H := P_perm (OP1 (w := (os0 (fX3_putHat (og0 (remO u)) x1 x2).2 (remO u)))).symm hP
        have hD : va_D A (OW ca en ai ad bd (os0 (fX3_putHat (og0 (remO u)) x1 x2).2 (remO u))) := D_perm (OP1 (w := (os0 (fX3_putHat (og0 (remO u)) x1 x2).2 (remO u)))).symm hD
        refine vx_ret (W.widen (k := 2) (n := 12) (Nat.le_of_ble_eq_true rfl) (Nat.le_of_ble_eq_true rfl) ?_)
        exact W.iret (v := (fX3_putHat (og0 (remO u)) x1 x2).1) hx hb hr (fun t ht hW => ⟨⟨(fX3_putHat (og0 (remO u)) x1 x2).1, (os0 (fX3_putHat (og0 (remO u)) x1 x2).2 (remO u)), rfl, hf.symm, by rw [ht]; exact hP, va_K.moved hW.alike hK, hD⟩, hS.F ht⟩) hS.2.2 dX5_placeHat_74
      · have hf := hf.trans (if_neg c_41)
        exact thrUOE (is := 100) (text := "the chair is covered") hx hb hfl hown (hts (.classLink RX5 98 "java/lang/UnsupportedOperationException") (by decide +kernel)) (hts (.initialized "java/lang/UnsupportedOperationException") (by decide +kernel)) (fun w hw => hts w (List.mem_cons_of_mem _ (List.mem_append_left _ (List.mem_append_right _ hw)))) hX (by decide +kernel) hS (by rw [hml]; exact hl.1) dX5_placeHat_44 dX5_placeHat_47 dX5_placeHat_48 dX5_placeHat_50 dX5_placeHat_53 hxt (Nat.le_of_ble_eq_true rfl) (Nat.le_of_ble_eq_true rfl) (Nat.le_of_ble_eq_true rfl) (Nat.le_of_ble_eq_true rfl) hlocks (fun t hAl h1 h2 => xc_T (w := u) (k := 3) 2 rfl rfl (by rw [hf]) hP hD hS h1 h2) hS.2.2 (Nat.le_of_ble_eq_true rfl) (Nat.le_of_ble_eq_true rfl)
    · have hf := hf.trans (if_pos c_27)
      exact thrISE (is := 96) (text := "the hat of the guest is placed") hx hb hfl hown (hts (.classLink RX5 65 "java/lang/IllegalStateException") (by decide +kernel)) (hts (.initialized "java/lang/IllegalStateException") (by decide +kernel)) (fun w hw => hts w (List.mem_cons_of_mem _ (List.mem_append_left _ (List.mem_append_left _ (List.mem_append_right _ hw))))) hX (by decide +kernel) hS (by rw [hml]; exact hl.1) dX5_placeHat_30 dX5_placeHat_33 dX5_placeHat_34 dX5_placeHat_36 dX5_placeHat_39 hxt (Nat.le_of_ble_eq_true rfl) (Nat.le_of_ble_eq_true rfl) (Nat.le_of_ble_eq_true rfl) (Nat.le_of_ble_eq_true rfl) hlocks (fun t hAl h1 h2 => xc_T (w := u) (k := 2) 1 rfl rfl (by rw [hf]) hP hD hS h1 h2) hS.2.2 (Nat.le_of_ble_eq_true rfl) (Nat.le_of_ble_eq_true rfl)
  · have hf := hf.trans (if_pos c_12)
    exact thrIOB (is := 94) (text := "no such guest or chair") hx hb hfl hown (hts (.classLink RX5 81 "java/lang/IndexOutOfBoundsException") (by decide +kernel)) (hts (.initialized "java/lang/IndexOutOfBoundsException") (by decide +kernel)) (fun w hw => hts w (List.mem_cons_of_mem _ (List.mem_append_left _ (List.mem_append_left _ (List.mem_append_left _ (List.mem_append_right _ hw)))))) hX (by decide +kernel) hS (by rw [hml]; exact hl.1) dX5_placeHat_15 dX5_placeHat_18 dX5_placeHat_19 dX5_placeHat_21 dX5_placeHat_24 hxt (Nat.le_of_ble_eq_true rfl) (Nat.le_of_ble_eq_true rfl) (Nat.le_of_ble_eq_true rfl) (Nat.le_of_ble_eq_true rfl) hlocks (fun t hAl h1 h2 => xc_T (w := u) (k := 1) 0 rfl rfl (by rw [hf]) hP hD hS h1 h2) hS.2.2 (Nat.le_of_ble_eq_true rfl) (Nat.le_of_ble_eq_true rfl)
