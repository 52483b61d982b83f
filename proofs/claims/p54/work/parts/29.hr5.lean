/-! the object's methods, on -/
def fX5_leaveCoat (u : OS) (x1 : Int32) (x2 : Int32) : Nat × Int32 × OS :=
  (if (fX3_refusalOfCoat (og0 u) x1 x2) = 1 then (1, 0, u) else (if (fX3_refusalOfCoat (og0 u) x1 x2) = 2 then (2, 0, u) else (if (fX3_refusalOfCoat (og0 u) x1 x2) = 0 then (0, (fX3_putCoat (og0 (remO u)) x1 x2).1, os0 (fX3_putCoat (og0 (remO u)) x1 x2).2 (remO u)) else (3, 0, u))))
set_option maxHeartbeats 4000000 in
set_option maxRecDepth 100000 in
/-- leaveCoat -/
theorem kX5_leaveCoat (l : Launch) (hfl : l.stackTraces = false) (D : va_G) (ca : Nat → ClassId) (en ks vs : Nat → Nat) (ai : Nat → Nat → Nat) (ad bd : Nat → Nat) (sz : Nat) (u : OS) (x1 : Int32) (x2 : Int32) (hoi : OI u) : HMet l yX5_leaveCoat wsX5_leaveCoat ({ frames := 6, cells := 2, slots := 12, locals := 82 }) D ca en ks vs ai ad bd sz u [.ref (ad 0), .int x1, .int x2] ["java/lang/IndexOutOfBoundsException", "java/lang/IllegalStateException", "java/lang/UnsupportedOperationException"] (fX5_leaveCoat u x1 x2) := by
  unfold HMet
  refine vx_ofW (cc := cX5_leaveCoat) (maxL := 4) (ret := (some .int)) (by decide) rfl ?_
  intro p e s m args below meth c s₁ B hml hxt hv
  obtain ⟨rfl, hsz, hP, hK, hD0, hX⟩ := hv
  have hx := B.exec
  have hb := B.bytes
  have hr := B.returns
  have hts := atoms_spec (ws := wsX5_leaveCoat) B.pre
  have hown : s.vm.findClass RX5 = some m.cls := findClass_of_methodNamed B.named
  have hlocks := B.notSynchronized
  have hin5 : ∀ w ∈ wsX50, w ∈ wsX5_leaveCoat := by decide +kernel
  have hin3 : ∀ w ∈ wsX30, w ∈ wsX5_leaveCoat := by decide +kernel
  have hin4 : ∀ w ∈ wsX40, w ∈ wsX5_leaveCoat := by decide +kernel
  have hin := hin5
  subst hsz
  have hD := hD0.self (sz := s.heap.size)
  generalize hAe : va_A (OW ca en ai ad bd u) s.heap.size = A at hD hX ⊢
  have hA : ∀ q : Nat, s.heap.size ≤ q → A q := fun q h => by rw [← hAe]; exact Or.inr h
  have hS : va_S A s.heap s.heap [] := va_S.rf
  have hf : fX5_leaveCoat u x1 x2 = fX5_leaveCoat u x1 x2 := rfl
  refine W_entry (Nat.le_of_ble_eq_true rfl) (fun ls hl => ?_)
  have hl : lv_has ls 4 [(0, .ref (ad 0)), (1, .int x1), (2, .int x2)] := hl
  refine lv_aload_n hx hb dX5_leaveCoat_0 rfl (lv_at hl 0 rfl) ?_
  refine va_get (D := D) (ci := 6) (v := .ref (ai 9 8)) (C := RX5) (T := TX5) (N := 10) hx hb hts hin hown hK hP 0 rfl rfl 0 (by decide) (hts (.fieldLink RX5 10 "HatReservations" "hall" "LHatReservations$Hall;") (by decide +kernel)) (fun _ h9 => h9) rfl dX5_leaveCoat_1 ?_
  refine lv_iload_n hx hb dX5_leaveCoat_4 rfl (lv_at hl 1 rfl) ?_
  refine lv_iload_n hx hb dX5_leaveCoat_5 rfl (lv_at hl 2 rfl) ?_
  refine hcRi (As := [.int x1, .int x2]) (rest := []) 0 4 ⟨hx, hb, hml, hown, hts⟩ (kX3_refusalOfCoat l D ca (ai 9) (og0 u) x1 x2 hoi.1.2) (cwV 2 hts gX5_leaveCoat_X3_refusalOfCoat rfl rfl rfl (by decide +kernel) ⟨Nat.le_of_ble_eq_true rfl, Nat.le_of_ble_eq_true rfl⟩) hK (OP_hall hP) rfl rfl rfl hl.1 rfl (Nat.le_of_ble_eq_true rfl) ⟨Nat.le_of_ble_eq_true rfl, Nat.le_of_ble_eq_true rfl⟩ dX5_leaveCoat_6 ?_
  refine lv_istore_n (lv' := [(3, .int (fX3_refusalOfCoat (og0 u) x1 x2)), (0, .ref (ad 0)), (1, .int x1), (2, .int x2)]) hx hb dX5_leaveCoat_9 rfl hl (by decide) rfl (fun ls hl => ?_)
  refine lv_iload_n hx hb dX5_leaveCoat_10 rfl (lv_at hl 0 rfl) ?_
  refine lv_iconst (v := 1) hx hb dX5_leaveCoat_11 (by decide) ?_
  refine lv_icmp_ne (tgt := 25) hx hb dX5_leaveCoat_12 (by decide) (fun c_12 => ?_) (fun c_12 => ?_)
  · have hf := hf.trans (if_neg c_12)
    refine lv_iload_n hx hb dX5_leaveCoat_25 rfl (lv_at hl 0 rfl) ?_
    refine lv_iconst (v := 2) hx hb dX5_leaveCoat_26 (by decide) ?_
    refine lv_icmp_ne (tgt := 40) hx hb dX5_leaveCoat_27 (by decide) (fun c_27 => ?_) (fun c_27 => ?_)
    · have hf := hf.trans (if_neg c_27)
      refine lv_iload_n hx hb dX5_leaveCoat_40 rfl (lv_at hl 0 rfl) ?_
      refine lv_if_eq (tgt := 54) hx hb dX5_leaveCoat_41 (by decide) (fun c_41 => ?_) (fun c_41 => ?_)
      · have hf := hf.trans (if_pos c_41)
        refine lv_aload_n hx hb dX5_leaveCoat_54 rfl (lv_at hl 1 rfl) ?_
        refine va_get (D := D) (ci := 6) (v := .ref (ad 1)) (C := RX5) (T := TX5) (N := 10) hx hb hts hin hown hK hP 0 rfl rfl 2 (by decide) (hts (.fieldLink RX5 22 "HatReservations" "history" "LHatReservations$History;") (by decide +kernel)) (fun _ h9 => h9) rfl dX5_leaveCoat_55 ?_
        refine lv_aload_n hx hb dX5_leaveCoat_58 rfl (lv_at hl 1 rfl) ?_
        refine va_get (D := D) (ci := 6) (v := .ref (ai 9 8)) (C := RX5) (T := TX5) (N := 10) hx hb hts hin hown hK hP 0 rfl rfl 0 (by decide) (hts (.fieldLink RX5 10 "HatReservations" "hall" "LHatReservations$Hall;") (by decide +kernel)) (fun _ h9 => h9) rfl dX5_leaveCoat_59 ?_
        refine hcMv (As := [.ref (ai 9 8)]) (rest := []) (wr := OR3 ca en ai ad bd u) (f := fun z => HHW ca ai ad z) (F := fX4_remember (oH u)) 0 5 ⟨hx, hb, hml, hown, hts⟩ (kX4_remember l D ca ai ad _ (oH u) hoi.2.2.2.1 hoi.2.2.2.2.1) (cwV 1 hts gX5_leaveCoat_X4_remember rfl rfl rfl (by decide +kernel) ⟨Nat.le_of_ble_eq_true rfl, Nat.le_of_ble_eq_true rfl⟩) hK hP hD hS hA OP3 rfl rfl rfl hl.1 rfl (Nat.le_of_ble_eq_true rfl) ⟨Nat.le_of_ble_eq_true rfl, Nat.le_of_ble_eq_true rfl⟩ dX5_leaveCoat_62 (fun H locs hP hD hS => ?_)
        have hP : va_P D vwCl (OW ca en ai ad bd (remO u)) H := P_perm (OP3 (w := (remO u))).symm hP
        have hD : va_D A (OW ca en ai ad bd (remO u)) := D_perm (OP3 (w := (remO u))).symm hD
        refine lv_aload_n hx hb dX5_leaveCoat_65 rfl (lv_at hl 1 rfl) ?_
        refine va_get (D := D) (ci := 6) (v := .ref (ai 9 8)) (C := RX5) (T := TX5) (N := 10) hx hb hts hin hown hK hP 0 rfl rfl 0 (by decide) (hts (.fieldLink RX5 10 "HatReservations" "hall" "LHatReservations$Hall;") (by decide +kernel)) (fun _ h9 => h9) rfl dX5_leaveCoat_66 ?_
        refine lv_iload_n hx hb dX5_leaveCoat_69 rfl (lv_at hl 2 rfl) ?_
        refine lv_iload_n hx hb dX5_leaveCoat_70 rfl (lv_at hl 3 rfl) ?_
        refine hcMi (As := [.int x1, .int x2]) (rest := []) (wr := OR1 ca en ai ad bd (remO u)) (f := HW ca (ai 9)) (F := fX3_putCoat (og0 (remO u)) x1 x2) 0 4 ⟨hx, hb, hml, hown, hts⟩ (kX3_putCoat l D ca (ai 9) _ (og0 (remO u)) x1 x2 (coat_ok hoi.1.2 c_41).1) (cwV 2 hts gX5_leaveCoat_X3_putCoat rfl rfl rfl (by decide +kernel) ⟨Nat.le_of_ble_eq_true rfl, Nat.le_of_ble_eq_true rfl⟩) hK hP hD hS hA OP1 rfl rfl rfl hl.1 rfl (Nat.le_of_ble_eq_true rfl) ⟨Nat.le_of_ble_eq_true rfl, Nat.le_of_ble_eq_true rfl⟩ dX5_leaveCoat_71 (fun H locs hP hD hS => ?_)
        have hP : va_P D vwCl (OW ca en ai ad bd (os0 (fX3_putCoat (og0 (remO u)) x1 x2).2 (remO u))) H := P_perm (OP1 (w := (os0 (fX3_putCoat (og0 (remO u)) x1 x2).2 (remO u)))).symm hP
        have hD : va_D A (OW ca en ai ad bd (os0 (fX3_putCoat (og0 (remO u)) x1 x2).2 (remO u))) := D_perm (OP1 (w := (os0 (fX3_putCoat (og0 (remO u)) x1 x2).2 (remO u)))).symm hD
        refine vx_ret (W.widen (k := 2) (n := 12) (Nat.le_of_ble_eq_true rfl) (Nat.le_of_ble_eq_true rfl) ?_)
        exact W.iret (v := (fX3_putCoat (og0 (remO u)) x1 x2).1) hx hb hr (fun t ht hW => ⟨⟨(fX3_putCoat (og0 (remO u)) x1 x2).1, (os0 (fX3_putCoat (og0 (remO u)) x1 x2).2 (remO u)), rfl, hf.symm, by rw [ht]; exact hP, va_K.moved hW.alike hK, hD⟩, hS.F ht⟩) hS.2.2 dX5_leaveCoat_74
      · have hf := hf.trans (if_neg c_41)
        exact thrUOE (is := 147) (text := "the chair takes no coat of this guest") hx hb hfl hown (hts (.classLink RX5 98 "java/lang/UnsupportedOperationException") (by decide +kernel)) (hts (.initialized "java/lang/UnsupportedOperationException") (by decide +kernel)) (fun w hw => hts w (List.mem_cons_of_mem _ (List.mem_append_left _ (List.mem_append_right _ hw)))) hX (by decide +kernel) hS (by rw [hml]; exact hl.1) dX5_leaveCoat_44 dX5_leaveCoat_47 dX5_leaveCoat_48 dX5_leaveCoat_50 dX5_leaveCoat_53 hxt (Nat.le_of_ble_eq_true rfl) (Nat.le_of_ble_eq_true rfl) (Nat.le_of_ble_eq_true rfl) (Nat.le_of_ble_eq_true rfl) hlocks (fun t hAl h1 h2 => xc_T (w := u) (k := 3) 2 rfl rfl (by rw [hf]) hP hD hS h1 h2) hS.2.2 (Nat.le_of_ble_eq_true rfl) (Nat.le_of_ble_eq_true rfl)
    · have hf := hf.trans (if_pos c_27)
      exact thrISE (is := 145) (text := "the coat of the guest is left on a chair") hx hb hfl hown (hts (.classLink RX5 65 "java/lang/IllegalStateException") (by decide +kernel)) (hts (.initialized "java/lang/IllegalStateException") (by decide +kernel)) (fun w hw => hts w (List.mem_cons_of_mem _ (List.mem_append_left _ (List.mem_append_left _ (List.mem_append_right _ hw))))) hX (by decide +kernel) hS (by rw [hml]; exact hl.1) dX5_leaveCoat_30 dX5_leaveCoat_33 dX5_leaveCoat_34 dX5_leaveCoat_36 dX5_leaveCoat_39 hxt (Nat.le_of_ble_eq_true rfl) (Nat.le_of_ble_eq_true rfl) (Nat.le_of_ble_eq_true rfl) (Nat.le_of_ble_eq_true rfl) hlocks (fun t hAl h1 h2 => xc_T (w := u) (k := 2) 1 rfl rfl (by rw [hf]) hP hD hS h1 h2) hS.2.2 (Nat.le_of_ble_eq_true rfl) (Nat.le_of_ble_eq_true rfl)
  · have hf := hf.trans (if_pos c_12)
    exact thrIOB (is := 94) (text := "no such guest or chair") hx hb hfl hown (hts (.classLink RX5 81 "java/lang/IndexOutOfBoundsException") (by decide +kernel)) (hts (.initialized "java/lang/IndexOutOfBoundsException") (by decide +kernel)) (fun w hw => hts w (List.mem_cons_of_mem _ (List.mem_append_left _ (List.mem_append_left _ (List.mem_append_left _ (List.mem_append_right _ hw)))))) hX (by decide +kernel) hS (by rw [hml]; exact hl.1) dX5_leaveCoat_15 dX5_leaveCoat_18 dX5_leaveCoat_19 dX5_leaveCoat_21 dX5_leaveCoat_24 hxt (Nat.le_of_ble_eq_true rfl) (Nat.le_of_ble_eq_true rfl) (Nat.le_of_ble_eq_true rfl) (Nat.le_of_ble_eq_true rfl) hlocks (fun t hAl h1 h2 => xc_T (w := u) (k := 1) 0 rfl rfl (by rw [hf]) hP hD hS h1 h2) hS.2.2 (Nat.le_of_ble_eq_true rfl) (Nat.le_of_ble_eq_true rfl)
def fX5_takeCoat (u : OS) (x1 : Int32) : Nat × Int32 × OS :=
  (if fX5_requireLeftCoat u x1 = 0 then (0, (fX3_pullCoat (og0 (remO u)) x1).1, os0 (fX3_pullCoat (og0 (remO u)) x1).2 (remO u)) else (fX5_requireLeftCoat u x1, 0, u))
set_option maxHeartbeats 4000000 in
set_option maxRecDepth 100000 in
/-- takeCoat -/
theorem kX5_takeCoat (l : Launch) (hfl : l.stackTraces = false) (D : va_G) (ca : Nat → ClassId) (en ks vs : Nat → Nat) (ai : Nat → Nat → Nat) (ad bd : Nat → Nat) (sz : Nat) (u : OS) (x1 : Int32) (hoi : OI u) : HMet l yX5_takeCoat wsX5_takeCoat ({ frames := 7, cells := 2, slots := 12, locals := 104 }) D ca en ks vs ai ad bd sz u [.ref (ad 0), .int x1] ["java/lang/IndexOutOfBoundsException", "java/util/NoSuchElementException"] (fX5_takeCoat u x1) := by
  unfold HMet
  refine vx_ofW (cc := cX5_takeCoat) (maxL := 2) (ret := (some .int)) (by decide) rfl ?_
  intro p e s m args below meth c s₁ B hml hxt hv
  obtain ⟨rfl, hsz, hP, hK, hD0, hX⟩ := hv
  have hx := B.exec
  have hb := B.bytes
  have hr := B.returns
  have hts := atoms_spec (ws := wsX5_takeCoat) B.pre
  have hown : s.vm.findClass RX5 = some m.cls := findClass_of_methodNamed B.named
  have hlocks := B.notSynchronized
  have hin5 : ∀ w ∈ wsX50, w ∈ wsX5_takeCoat := by decide +kernel
  have hin3 : ∀ w ∈ wsX30, w ∈ wsX5_takeCoat := by decide +kernel
  have hin4 : ∀ w ∈ wsX40, w ∈ wsX5_takeCoat := by decide +kernel
  have hin := hin5
  subst hsz
  have hD := hD0.self (sz := s.heap.size)
  generalize hAe : va_A (OW ca en ai ad bd u) s.heap.size = A at hD hX ⊢
  have hA : ∀ q : Nat, s.heap.size ≤ q → A q := fun q h => by rw [← hAe]; exact Or.inr h
  have hS : va_S A s.heap s.heap [] := va_S.rf
  have hf : fX5_takeCoat u x1 = fX5_takeCoat u x1 := rfl
  refine W_entry (Nat.le_of_ble_eq_true rfl) (fun ls hl => ?_)
  have hl : lv_has ls 2 [(0, .ref (ad 0)), (1, .int x1)] := hl
  refine lv_aload_n hx hb dX5_takeCoat_0 rfl (lv_at hl 0 rfl) ?_
  refine lv_iload_n hx hb dX5_takeCoat_1 rfl (lv_at hl 1 rfl) ?_
  refine hcCv (names := ["java/lang/IndexOutOfBoundsException", "java/util/NoSuchElementException"]) (k := fX5_requireLeftCoat u x1) (As := [.int x1]) (rest := []) (wr := []) 0 6 (HX_ok en ks vs) ⟨hx, hb, hml, hown, hts⟩ (kX5_requireLeftCoat l hfl D ca en ks vs ai ad bd _ u x1 hoi) (cwV 1 hts gX5_takeCoat_X5_requireLeftCoat rfl rfl rfl (by decide +kernel) ⟨Nat.le_of_ble_eq_true rfl, Nat.le_of_ble_eq_true rfl⟩) hK hP hD hS hA hX (List.Perm.refl _) rfl rfl rfl hl.1 rfl (Nat.le_of_ble_eq_true rfl) ⟨(Nat.le_of_ble_eq_true rfl), (Nat.le_of_ble_eq_true rfl)⟩ dX5_takeCoat_2 (fun i E9 ce q9 H locs hi hk9 hP hD hS h5 h6 h7 => ?_) (fun H locs z_2 hP hD hS => ?_)
  · have hf := hf.trans (if_neg (show ¬ fX5_requireLeftCoat u x1 = 0 by rw [hk9]; exact Nat.succ_ne_zero i))
    exact vx_out (fun x h => (hxt x h).elim) hlocks h5 h6 h7 (xc_o (w := u) i (pre_get (m := []) hi) hk9 (by rw [hf]) hP hD hS) hS.2.2 (Nat.le_of_ble_eq_true rfl) (Nat.le_of_ble_eq_true rfl)
  · have hf := hf.trans (if_pos z_2)
    have i_2 := rc_in hoi.1.2 z_2
    refine lv_aload_n hx hb dX5_takeCoat_5 rfl (lv_at hl 0 rfl) ?_
    refine va_get (D := D) (ci := 6) (v := .ref (ad 1)) (C := RX5) (T := TX5) (N := 10) hx hb hts hin hown hK hP 0 rfl rfl 2 (by decide) (hts (.fieldLink RX5 22 "HatReservations" "history" "LHatReservations$History;") (by decide +kernel)) (fun _ h9 => h9) rfl dX5_takeCoat_6 ?_
    refine lv_aload_n hx hb dX5_takeCoat_9 rfl (lv_at hl 0 rfl) ?_
    refine va_get (D := D) (ci := 6) (v := .ref (ai 9 8)) (C := RX5) (T := TX5) (N := 10) hx hb hts hin hown hK hP 0 rfl rfl 0 (by decide) (hts (.fieldLink RX5 10 "HatReservations" "hall" "LHatReservations$Hall;") (by decide +kernel)) (fun _ h9 => h9) rfl dX5_takeCoat_10 ?_
    refine hcMv (As := [.ref (ai 9 8)]) (rest := []) (wr := OR3 ca en ai ad bd u) (f := fun z => HHW ca ai ad z) (F := fX4_remember (oH u)) 0 5 ⟨hx, hb, hml, hown, hts⟩ (kX4_remember l D ca ai ad _ (oH u) hoi.2.2.2.1 hoi.2.2.2.2.1) (cwV 1 hts gX5_takeCoat_X4_remember rfl rfl rfl (by decide +kernel) ⟨Nat.le_of_ble_eq_true rfl, Nat.le_of_ble_eq_true rfl⟩) hK hP hD hS hA OP3 rfl rfl rfl hl.1 rfl (Nat.le_of_ble_eq_true rfl) ⟨Nat.le_of_ble_eq_true rfl, Nat.le_of_ble_eq_true rfl⟩ dX5_takeCoat_13 (fun H locs hP hD hS => ?_)
    have hP : va_P D vwCl (OW ca en ai ad bd (remO u)) H := P_perm (OP3 (w := (remO u))).symm hP
    have hD : va_D A (OW ca en ai ad bd (remO u)) := D_perm (OP3 (w := (remO u))).symm hD
    refine lv_aload_n hx hb dX5_takeCoat_16 rfl (lv_at hl 0 rfl) ?_
    refine va_get (D := D) (ci := 6) (v := .ref (ai 9 8)) (C := RX5) (T := TX5) (N := 10) hx hb hts hin hown hK hP 0 rfl rfl 0 (by decide) (hts (.fieldLink RX5 10 "HatReservations" "hall" "LHatReservations$Hall;") (by decide +kernel)) (fun _ h9 => h9) rfl dX5_takeCoat_17 ?_
    refine lv_iload_n hx hb dX5_takeCoat_20 rfl (lv_at hl 1 rfl) ?_
    refine hcMi (As := [.int x1]) (rest := []) (wr := OR1 ca en ai ad bd (remO u)) (f := HW ca (ai 9)) (F := fX3_pullCoat (og0 (remO u)) x1) 0 4 ⟨hx, hb, hml, hown, hts⟩ (kX3_pullCoat l D ca (ai 9) _ (og0 (remO u)) x1 i_2) (cwV 1 hts gX5_takeCoat_X3_pullCoat rfl rfl rfl (by decide +kernel) ⟨Nat.le_of_ble_eq_true rfl, Nat.le_of_ble_eq_true rfl⟩) hK hP hD hS hA OP1 rfl rfl rfl hl.1 rfl (Nat.le_of_ble_eq_true rfl) ⟨Nat.le_of_ble_eq_true rfl, Nat.le_of_ble_eq_true rfl⟩ dX5_takeCoat_21 (fun H locs hP hD hS => ?_)
    have hP : va_P D vwCl (OW ca en ai ad bd (os0 (fX3_pullCoat (og0 (remO u)) x1).2 (remO u))) H := P_perm (OP1 (w := (os0 (fX3_pullCoat (og0 (remO u)) x1).2 (remO u)))).symm hP
    have hD : va_D A (OW ca en ai ad bd (os0 (fX3_pullCoat (og0 (remO u)) x1).2 (remO u))) := D_perm (OP1 (w := (os0 (fX3_pullCoat (og0 (remO u)) x1).2 (remO u)))).symm hD
    refine vx_ret (W.widen (k := 2) (n := 12) (Nat.le_of_ble_eq_true rfl) (Nat.le_of_ble_eq_true rfl) ?_)
    exact W.iret (v := (fX3_pullCoat (og0 (remO u)) x1).1) hx hb hr (fun t ht hW => ⟨⟨(fX3_pullCoat (og0 (remO u)) x1).1, (os0 (fX3_pullCoat (og0 (remO u)) x1).2 (remO u)), rfl, hf.symm, by rw [ht]; exact hP, va_K.moved hW.alike hK, hD⟩, hS.F ht⟩) hS.2.2 dX5_takeCoat_24
def fX5_hasCoatLeft (u : OS) (x1 : Int32) : Nat × Int32 × OS :=
  (if fX5_requireGuest u x1 = 0 then (if (h5 (og0 u) x1.toNatClampNeg) = (-1) then (0, 0, u) else (0, 1, u)) else (fX5_requireGuest u x1, 0, u))
set_option maxHeartbeats 4000000 in
set_option maxRecDepth 100000 in
/-- hasCoatLeft -/
theorem kX5_hasCoatLeft (l : Launch) (hfl : l.stackTraces = false) (D : va_G) (ca : Nat → ClassId) (en ks vs : Nat → Nat) (ai : Nat → Nat → Nat) (ad bd : Nat → Nat) (sz : Nat) (u : OS) (x1 : Int32) (hoi : OI u) : HMet l yX5_hasCoatLeft wsX5_hasCoatLeft ({ frames := 7, cells := 2, slots := 12, locals := 103 }) D ca en ks vs ai ad bd sz u [.ref (ad 0), .int x1] ["java/lang/IndexOutOfBoundsException"] (fX5_hasCoatLeft u x1) := by
  unfold HMet
  refine vx_ofW (cc := cX5_hasCoatLeft) (maxL := 2) (ret := (some .boolean)) (by decide) rfl ?_
  intro p e s m args below meth c s₁ B hml hxt hv
  obtain ⟨rfl, hsz, hP, hK, hD0, hX⟩ := hv
  have hx := B.exec
  have hb := B.bytes
  have hr := B.returns
  have hts := atoms_spec (ws := wsX5_hasCoatLeft) B.pre
  have hown : s.vm.findClass RX5 = some m.cls := findClass_of_methodNamed B.named
  have hlocks := B.notSynchronized
  have hin5 : ∀ w ∈ wsX50, w ∈ wsX5_hasCoatLeft := by decide +kernel
  have hin3 : ∀ w ∈ wsX30, w ∈ wsX5_hasCoatLeft := by decide +kernel
  have hin := hin5
  subst hsz
  have hD := hD0.self (sz := s.heap.size)
  generalize hAe : va_A (OW ca en ai ad bd u) s.heap.size = A at hD hX ⊢
  have hA : ∀ q : Nat, s.heap.size ≤ q → A q := fun q h => by rw [← hAe]; exact Or.inr h
  have hS : va_S A s.heap s.heap [] := va_S.rf
  have hf : fX5_hasCoatLeft u x1 = fX5_hasCoatLeft u x1 := rfl
  refine W_entry (Nat.le_of_ble_eq_true rfl) (fun ls hl => ?_)
  have hl : lv_has ls 2 [(0, .ref (ad 0)), (1, .int x1)] := hl
  refine lv_aload_n hx hb dX5_hasCoatLeft_0 rfl (lv_at hl 0 rfl) ?_
  refine lv_iload_n hx hb dX5_hasCoatLeft_1 rfl (lv_at hl 1 rfl) ?_
  refine hcCv (names := ["java/lang/IndexOutOfBoundsException"]) (k := fX5_requireGuest u x1) (As := [.int x1]) (rest := []) (wr := []) 0 6 (HX_ok en ks vs) ⟨hx, hb, hml, hown, hts⟩ (kX5_requireGuest l hfl D ca en ks vs ai ad bd _ u x1 hoi) (cwV 1 hts gX5_hasCoatLeft_X5_requireGuest rfl rfl rfl (by decide +kernel) ⟨Nat.le_of_ble_eq_true rfl, Nat.le_of_ble_eq_true rfl⟩) hK hP hD hS hA hX (List.Perm.refl _) rfl rfl rfl hl.1 rfl (Nat.le_of_ble_eq_true rfl) ⟨(Nat.le_of_ble_eq_true rfl), (Nat.le_of_ble_eq_true rfl)⟩ dX5_hasCoatLeft_2 (fun i E9 ce q9 H locs hi hk9 hP hD hS h5 h6 h7 => ?_) (fun H locs z_2 hP hD hS => ?_)
  · have hf := hf.trans (if_neg (show ¬ fX5_requireGuest u x1 = 0 by rw [hk9]; exact Nat.succ_ne_zero i))
    exact vx_out (fun x h => (hxt x h).elim) hlocks h5 h6 h7 (xc_o (w := u) i (pre_get (m := []) hi) hk9 (by rw [hf]) hP hD hS) hS.2.2 (Nat.le_of_ble_eq_true rfl) (Nat.le_of_ble_eq_true rfl)
  · have hf := hf.trans (if_pos z_2)
    have i_2 := rg_in hoi.1.2 z_2
    refine lv_aload_n hx hb dX5_hasCoatLeft_5 rfl (lv_at hl 0 rfl) ?_
    refine va_get (D := D) (ci := 6) (v := .ref (ai 9 8)) (C := RX5) (T := TX5) (N := 10) hx hb hts hin hown hK hP 0 rfl rfl 0 (by decide) (hts (.fieldLink RX5 10 "HatReservations" "hall" "LHatReservations$Hall;") (by decide +kernel)) (fun _ h9 => h9) rfl dX5_hasCoatLeft_6 ?_
    refine va_get (D := D) (ci := 4) (v := .ref (ai 9 5)) (C := RX3) (T := TX3) (N := 15) hx hb hts hin3 hown hK (OP_hall hP) 0 rfl rfl 5 (by decide) (hts (.fieldLink RX5 158 "HatReservations$Hall" "coatChairs" "[I") (by decide +kernel)) (fun _ h9 => h9) rfl dX5_hasCoatLeft_9 ?_
    refine lv_iload_n hx hb dX5_hasCoatLeft_12 rfl (lv_at hl 1 rfl) ?_
    refine va_iald hx hb hK (OP_hall hP) 6 0 rfl rfl i_2 dX5_hasCoatLeft_13 ?_
    refine lv_iconst (v := (-1)) hx hb dX5_hasCoatLeft_14 (by decide) ?_
    refine lv_icmp_eq (tgt := 22) hx hb dX5_hasCoatLeft_15 (by decide) (fun c_15 => ?_) (fun c_15 => ?_)
    · have hf := hf.trans (if_pos c_15)
      refine lv_iconst (v := 0) hx hb dX5_hasCoatLeft_22 (by decide) ?_
      refine vx_ret (W.widen (k := 2) (n := 12) (Nat.le_of_ble_eq_true rfl) (Nat.le_of_ble_eq_true rfl) ?_)
      exact W.zret (ty := .boolean) (v := 0) hx hb hr (by decide) (fun t ht hW => ⟨⟨0, u, rfl, hf.symm, by rw [ht]; exact hP, va_K.moved hW.alike hK, hD⟩, hS.F ht⟩) hS.2.2 dX5_hasCoatLeft_23
    · have hf := hf.trans (if_neg c_15)
      refine lv_iconst (v := 1) hx hb dX5_hasCoatLeft_18 (by decide) ?_
      refine lv_goto (tgt := 23) hx hb dX5_hasCoatLeft_19 (by decide) ?_
      refine vx_ret (W.widen (k := 2) (n := 12) (Nat.le_of_ble_eq_true rfl) (Nat.le_of_ble_eq_true rfl) ?_)
      exact W.zret (ty := .boolean) (v := 1) hx hb hr (by decide) (fun t ht hW => ⟨⟨1, u, rfl, hf.symm, by rw [ht]; exact hP, va_K.moved hW.alike hK, hD⟩, hS.F ht⟩) hS.2.2 dX5_hasCoatLeft_23
def fX5_coatChair (u : OS) (x1 : Int32) : Nat × Int32 × OS :=
  (if fX5_requireLeftCoat u x1 = 0 then (0, h5 (og0 u) x1.toNatClampNeg, u) else (fX5_requireLeftCoat u x1, 0, u))
set_option maxHeartbeats 4000000 in
set_option maxRecDepth 100000 in
/-- coatChair -/
theorem kX5_coatChair (l : Launch) (hfl : l.stackTraces = false) (D : va_G) (ca : Nat → ClassId) (en ks vs : Nat → Nat) (ai : Nat → Nat → Nat) (ad bd : Nat → Nat) (sz : Nat) (u : OS) (x1 : Int32) (hoi : OI u) : HMet l yX5_coatChair wsX5_coatChair ({ frames := 7, cells := 2, slots := 12, locals := 104 }) D ca en ks vs ai ad bd sz u [.ref (ad 0), .int x1] ["java/lang/IndexOutOfBoundsException", "java/util/NoSuchElementException"] (fX5_coatChair u x1) := by
  unfold HMet
  refine vx_ofW (cc := cX5_coatChair) (maxL := 2) (ret := (some .int)) (by decide) rfl ?_
  intro p e s m args below meth c s₁ B hml hxt hv
  obtain ⟨rfl, hsz, hP, hK, hD0, hX⟩ := hv
  have hx := B.exec
  have hb := B.bytes
  have hr := B.returns
  have hts := atoms_spec (ws := wsX5_coatChair) B.pre
  have hown : s.vm.findClass RX5 = some m.cls := findClass_of_methodNamed B.named
  have hlocks := B.notSynchronized
  have hin5 : ∀ w ∈ wsX50, w ∈ wsX5_coatChair := by decide +kernel
  have hin3 : ∀ w ∈ wsX30, w ∈ wsX5_coatChair := by decide +kernel
  have hin := hin5
  subst hsz
  have hD := hD0.self (sz := s.heap.size)
  generalize hAe : va_A (OW ca en ai ad bd u) s.heap.size = A at hD hX ⊢
  have hA : ∀ q : Nat, s.heap.size ≤ q → A q := fun q h => by rw [← hAe]; exact Or.inr h
  have hS : va_S A s.heap s.heap [] := va_S.rf
  have hf : fX5_coatChair u x1 = fX5_coatChair u x1 := rfl
  refine W_entry (Nat.le_of_ble_eq_true rfl) (fun ls hl => ?_)
  have hl : lv_has ls 2 [(0, .ref (ad 0)), (1, .int x1)] := hl
  refine lv_aload_n hx hb dX5_coatChair_0 rfl (lv_at hl 0 rfl) ?_
  refine lv_iload_n hx hb dX5_coatChair_1 rfl (lv_at hl 1 rfl) ?_
  refine hcCv (names := ["java/lang/IndexOutOfBoundsException", "java/util/NoSuchElementException"]) (k := fX5_requireLeftCoat u x1) (As := [.int x1]) (rest := []) (wr := []) 0 6 (HX_ok en ks vs) ⟨hx, hb, hml, hown, hts⟩ (kX5_requireLeftCoat l hfl D ca en ks vs ai ad bd _ u x1 hoi) (cwV 1 hts gX5_coatChair_X5_requireLeftCoat rfl rfl rfl (by decide +kernel) ⟨Nat.le_of_ble_eq_true rfl, Nat.le_of_ble_eq_true rfl⟩) hK hP hD hS hA hX (List.Perm.refl _) rfl rfl rfl hl.1 rfl (Nat.le_of_ble_eq_true rfl) ⟨(Nat.le_of_ble_eq_true rfl), (Nat.le_of_ble_eq_true rfl)⟩ dX5_coatChair_2 (fun i E9 ce q9 H locs hi hk9 hP hD hS h5 h6 h7 => ?_) (fun H locs z_2 hP hD hS => ?_)
  · have hf := hf.trans (if_neg (show ¬ fX5_requireLeftCoat u x1 = 0 by rw [hk9]; exact Nat.succ_ne_zero i))
    exact vx_out (fun x h => (hxt x h).elim) hlocks h5 h6 h7 (xc_o (w := u) i (pre_get (m := []) hi) hk9 (by rw [hf]) hP hD hS) hS.2.2 (Nat.le_of_ble_eq_true rfl) (Nat.le_of_ble_eq_true rfl)
  · have hf := hf.trans (if_pos z_2)
    have i_2 := rc_in hoi.1.2 z_2
    refine lv_aload_n hx hb dX5_coatChair_5 rfl (lv_at hl 0 rfl) ?_
    refine va_get (D := D) (ci := 6) (v := .ref (ai 9 8)) (C := RX5) (T := TX5) (N := 10) hx hb hts hin hown hK hP 0 rfl rfl 0 (by decide) (hts (.fieldLink RX5 10 "HatReservations" "hall" "LHatReservations$Hall;") (by decide +kernel)) (fun _ h9 => h9) rfl dX5_coatChair_6 ?_
    refine va_get (D := D) (ci := 4) (v := .ref (ai 9 5)) (C := RX3) (T := TX3) (N := 15) hx hb hts hin3 hown hK (OP_hall hP) 0 rfl rfl 5 (by decide) (hts (.fieldLink RX5 158 "HatReservations$Hall" "coatChairs" "[I") (by decide +kernel)) (fun _ h9 => h9) rfl dX5_coatChair_9 ?_
    refine lv_iload_n hx hb dX5_coatChair_12 rfl (lv_at hl 1 rfl) ?_
    refine va_iald hx hb hK (OP_hall hP) 6 0 rfl rfl i_2 dX5_coatChair_13 ?_
    refine vx_ret (W.widen (k := 2) (n := 12) (Nat.le_of_ble_eq_true rfl) (Nat.le_of_ble_eq_true rfl) ?_)
    exact W.iret (v := h5 (og0 u) x1.toNatClampNeg) hx hb hr (fun t ht hW => ⟨⟨h5 (og0 u) x1.toNatClampNeg, u, rfl, hf.symm, by rw [ht]; exact hP, va_K.moved hW.alike hK, hD⟩, hS.F ht⟩) hS.2.2 dX5_coatChair_14
def fX5_coatCount (u : OS) (x1 : Int32) : Nat × Int32 × OS :=
  (if fX5_requireChair x1 = 0 then (0, fX3_coatsOn (og0 u) x1, u) else (fX5_requireChair x1, 0, u))
set_option maxHeartbeats 4000000 in
set_option maxRecDepth 100000 in
/-- coatCount -/
theorem kX5_coatCount (l : Launch) (hfl : l.stackTraces = false) (D : va_G) (ca : Nat → ClassId) (en ks vs : Nat → Nat) (ai : Nat → Nat → Nat) (ad bd : Nat → Nat) (sz : Nat) (u : OS) (x1 : Int32) (hoi : OI u) : HMet l yX5_coatCount wsX5_coatCount ({ frames := 7, cells := 2, slots := 12, locals := 102 }) D ca en ks vs ai ad bd sz u [.ref (ad 0), .int x1] ["java/lang/IndexOutOfBoundsException"] (fX5_coatCount u x1) := by
  unfold HMet
  refine vx_ofW (cc := cX5_coatCount) (maxL := 2) (ret := (some .int)) (by decide) rfl ?_
  intro p e s m args below meth c s₁ B hml hxt hv
  obtain ⟨rfl, hsz, hP, hK, hD0, hX⟩ := hv
  have hx := B.exec
  have hb := B.bytes
  have hr := B.returns
  have hts := atoms_spec (ws := wsX5_coatCount) B.pre
  have hown : s.vm.findClass RX5 = some m.cls := findClass_of_methodNamed B.named
  have hlocks := B.notSynchronized
  have hin5 : ∀ w ∈ wsX50, w ∈ wsX5_coatCount := by decide +kernel
  have hin3 : ∀ w ∈ wsX30, w ∈ wsX5_coatCount := by decide +kernel
  have hin := hin5
  subst hsz
  have hD := hD0.self (sz := s.heap.size)
  generalize hAe : va_A (OW ca en ai ad bd u) s.heap.size = A at hD hX ⊢
  have hA : ∀ q : Nat, s.heap.size ≤ q → A q := fun q h => by rw [← hAe]; exact Or.inr h
  have hS : va_S A s.heap s.heap [] := va_S.rf
  have hf : fX5_coatCount u x1 = fX5_coatCount u x1 := rfl
  refine W_entry (Nat.le_of_ble_eq_true rfl) (fun ls hl => ?_)
  have hl : lv_has ls 2 [(0, .ref (ad 0)), (1, .int x1)] := hl
  refine lv_iload_n hx hb dX5_coatCount_0 rfl (lv_at hl 1 rfl) ?_
  refine hcCSv (names := ["java/lang/IndexOutOfBoundsException"]) (k := fX5_requireChair x1) (As := [.int x1]) (rest := []) (HX_ok en ks vs) ⟨hx, hb, hml, hown, hts⟩ (kX5_requireChair l hfl D ca en ks vs _ x1) (va_cwS 1 hts gX5_coatCount_X5_requireChair rfl rfl rfl (by decide +kernel) ⟨Nat.le_of_ble_eq_true rfl, Nat.le_of_ble_eq_true rfl⟩) hK hP hD hS hA hX rfl hl.1 rfl (Nat.le_of_ble_eq_true rfl) ⟨(Nat.le_of_ble_eq_true rfl), (Nat.le_of_ble_eq_true rfl)⟩ dX5_coatCount_1 (fun i E9 ce q9 H locs hi hk9 hP hD hS h5 h6 h7 => ?_) (fun H locs z_1 hP hD hS => ?_)
  · have hf := hf.trans (if_neg (show ¬ fX5_requireChair x1 = 0 by rw [hk9]; exact Nat.succ_ne_zero i))
    exact vx_out (fun x h => (hxt x h).elim) hlocks h5 h6 h7 (xc_o (w := u) i (pre_get (m := []) hi) hk9 (by rw [hf]) hP hD hS) hS.2.2 (Nat.le_of_ble_eq_true rfl) (Nat.le_of_ble_eq_true rfl)
  · have hf := hf.trans (if_pos z_1)
    refine lv_aload_n hx hb dX5_coatCount_4 rfl (lv_at hl 0 rfl) ?_
    refine va_get (D := D) (ci := 6) (v := .ref (ai 9 8)) (C := RX5) (T := TX5) (N := 10) hx hb hts hin hown hK hP 0 rfl rfl 0 (by decide) (hts (.fieldLink RX5 10 "HatReservations" "hall" "LHatReservations$Hall;") (by decide +kernel)) (fun _ h9 => h9) rfl dX5_coatCount_5 ?_
    refine lv_iload_n hx hb dX5_coatCount_8 rfl (lv_at hl 1 rfl) ?_
    refine hcRi (As := [.int x1]) (rest := []) 0 4 ⟨hx, hb, hml, hown, hts⟩ (kX3_coatsOn l D ca (ai 9) (og0 u) x1 ) (cwV 1 hts gX5_coatCount_X3_coatsOn rfl rfl rfl (by decide +kernel) ⟨Nat.le_of_ble_eq_true rfl, Nat.le_of_ble_eq_true rfl⟩) hK (OP_hall hP) rfl rfl rfl hl.1 rfl (Nat.le_of_ble_eq_true rfl) ⟨Nat.le_of_ble_eq_true rfl, Nat.le_of_ble_eq_true rfl⟩ dX5_coatCount_9 ?_
    refine vx_ret (W.widen (k := 2) (n := 12) (Nat.le_of_ble_eq_true rfl) (Nat.le_of_ble_eq_true rfl) ?_)
    exact W.iret (v := fX3_coatsOn (og0 u) x1) hx hb hr (fun t ht hW => ⟨⟨fX3_coatsOn (og0 u) x1, u, rfl, hf.symm, by rw [ht]; exact hP, va_K.moved hW.alike hK, hD⟩, hS.F ht⟩) hS.2.2 dX5_coatCount_12
def fX5_coatOwner (u : OS) (x1 : Int32) (x2 : Int32) : Nat × Int32 × OS :=
  (if fX5_requireChair x1 = 0 then (if (fX3_ownerAt (og0 u) x1 x2) = (-1) then (2, 0, u) else (0, fX3_ownerAt (og0 u) x1 x2, u)) else (fX5_requireChair x1, 0, u))
set_option maxHeartbeats 4000000 in
set_option maxRecDepth 100000 in
/-- coatOwner -/
theorem kX5_coatOwner (l : Launch) (hfl : l.stackTraces = false) (D : va_G) (ca : Nat → ClassId) (en ks vs : Nat → Nat) (ai : Nat → Nat → Nat) (ad bd : Nat → Nat) (sz : Nat) (u : OS) (x1 : Int32) (x2 : Int32) (hoi : OI u) : HMet l yX5_coatOwner wsX5_coatOwner ({ frames := 7, cells := 2, slots := 12, locals := 102 }) D ca en ks vs ai ad bd sz u [.ref (ad 0), .int x1, .int x2] ["java/lang/IndexOutOfBoundsException", "java/util/NoSuchElementException"] (fX5_coatOwner u x1 x2) := by
  unfold HMet
  refine vx_ofW (cc := cX5_coatOwner) (maxL := 4) (ret := (some .int)) (by decide) rfl ?_
  intro p e s m args below meth c s₁ B hml hxt hv
  obtain ⟨rfl, hsz, hP, hK, hD0, hX⟩ := hv
  have hx := B.exec
  have hb := B.bytes
  have hr := B.returns
  have hts := atoms_spec (ws := wsX5_coatOwner) B.pre
  have hown : s.vm.findClass RX5 = some m.cls := findClass_of_methodNamed B.named
  have hlocks := B.notSynchronized
  have hin5 : ∀ w ∈ wsX50, w ∈ wsX5_coatOwner := by decide +kernel
  have hin3 : ∀ w ∈ wsX30, w ∈ wsX5_coatOwner := by decide +kernel
  have hin := hin5
  subst hsz
  have hD := hD0.self (sz := s.heap.size)
  generalize hAe : va_A (OW ca en ai ad bd u) s.heap.size = A at hD hX ⊢
  have hA : ∀ q : Nat, s.heap.size ≤ q → A q := fun q h => by rw [← hAe]; exact Or.inr h
  have hS : va_S A s.heap s.heap [] := va_S.rf
  have hf : fX5_coatOwner u x1 x2 = fX5_coatOwner u x1 x2 := rfl
  refine W_entry (Nat.le_of_ble_eq_true rfl) (fun ls hl => ?_)
  have hl : lv_has ls 4 [(0, .ref (ad 0)), (1, .int x1), (2, .int x2)] := hl
  refine lv_iload_n hx hb dX5_coatOwner_0 rfl (lv_at hl 1 rfl) ?_
  refine hcCSv (names := ["java/lang/IndexOutOfBoundsException"]) (k := fX5_requireChair x1) (As := [.int x1]) (rest := []) (HX_ok en ks vs) ⟨hx, hb, hml, hown, hts⟩ (kX5_requireChair l hfl D ca en ks vs _ x1) (va_cwS 1 hts gX5_coatOwner_X5_requireChair rfl rfl rfl (by decide +kernel) ⟨Nat.le_of_ble_eq_true rfl, Nat.le_of_ble_eq_true rfl⟩) hK hP hD hS hA hX rfl hl.1 rfl (Nat.le_of_ble_eq_true rfl) ⟨(Nat.le_of_ble_eq_true rfl), (Nat.le_of_ble_eq_true rfl)⟩ dX5_coatOwner_1 (fun i E9 ce q9 H locs hi hk9 hP hD hS h5 h6 h7 => ?_) (fun H locs z_1 hP hD hS => ?_)
  · have hf := hf.trans (if_neg (show ¬ fX5_requireChair x1 = 0 by rw [hk9]; exact Nat.succ_ne_zero i))
    exact vx_out (fun x h => (hxt x h).elim) hlocks h5 h6 h7 (xc_o (w := u) i (pre_get (m := ["java/util/NoSuchElementException"]) hi) hk9 (by rw [hf]) hP hD hS) hS.2.2 (Nat.le_of_ble_eq_true rfl) (Nat.le_of_ble_eq_true rfl)
  · have hf := hf.trans (if_pos z_1)
    refine lv_aload_n hx hb dX5_coatOwner_4 rfl (lv_at hl 0 rfl) ?_
    refine va_get (D := D) (ci := 6) (v := .ref (ai 9 8)) (C := RX5) (T := TX5) (N := 10) hx hb hts hin hown hK hP 0 rfl rfl 0 (by decide) (hts (.fieldLink RX5 10 "HatReservations" "hall" "LHatReservations$Hall;") (by decide +kernel)) (fun _ h9 => h9) rfl dX5_coatOwner_5 ?_
    refine lv_iload_n hx hb dX5_coatOwner_8 rfl (lv_at hl 1 rfl) ?_
    refine lv_iload_n hx hb dX5_coatOwner_9 rfl (lv_at hl 2 rfl) ?_
    refine hcRi (As := [.int x1, .int x2]) (rest := []) 0 4 ⟨hx, hb, hml, hown, hts⟩ (kX3_ownerAt l D ca (ai 9) (og0 u) x1 x2 ) (cwV 2 hts gX5_coatOwner_X3_ownerAt rfl rfl rfl (by decide +kernel) ⟨Nat.le_of_ble_eq_true rfl, Nat.le_of_ble_eq_true rfl⟩) hK (OP_hall hP) rfl rfl rfl hl.1 rfl (Nat.le_of_ble_eq_true rfl) ⟨Nat.le_of_ble_eq_true rfl, Nat.le_of_ble_eq_true rfl⟩ dX5_coatOwner_10 ?_
    refine lv_istore_n (lv' := [(3, .int (fX3_ownerAt (og0 u) x1 x2)), (0, .ref (ad 0)), (1, .int x1), (2, .int x2)]) hx hb dX5_coatOwner_13 rfl hl (by decide) rfl (fun ls hl => ?_)
    refine lv_iload_n hx hb dX5_coatOwner_14 rfl (lv_at hl 0 rfl) ?_
    refine lv_iconst (v := (-1)) hx hb dX5_coatOwner_15 (by decide) ?_
    refine lv_icmp_ne (tgt := 29) hx hb dX5_coatOwner_16 (by decide) (fun c_16 => ?_) (fun c_16 => ?_)
    · have hf := hf.trans (if_neg c_16)
      refine lv_iload_n hx hb dX5_coatOwner_29 rfl (lv_at hl 0 rfl) ?_
      refine vx_ret (W.widen (k := 2) (n := 12) (Nat.le_of_ble_eq_true rfl) (Nat.le_of_ble_eq_true rfl) ?_)
      exact W.iret (v := fX3_ownerAt (og0 u) x1 x2) hx hb hr (fun t ht hW => ⟨⟨fX3_ownerAt (og0 u) x1 x2, u, rfl, hf.symm, by rw [ht]; exact hP, va_K.moved hW.alike hK, hD⟩, hS.F ht⟩) hS.2.2 dX5_coatOwner_30
    · have hf := hf.trans (if_pos c_16)
      exact thrNSE (is := 172) (text := "no such position") hx hb hfl hown (hts (.classLink RX5 170 "java/util/NoSuchElementException") (by decide +kernel)) (hts (.initialized "java/util/NoSuchElementException") (by decide +kernel)) (fun w hw => hts w (List.mem_cons_of_mem _ (List.mem_append_left _ (List.mem_append_left _ (List.mem_append_right _ hw))))) hX (by decide +kernel) hS (by rw [hml]; exact hl.1) dX5_coatOwner_19 dX5_coatOwner_22 dX5_coatOwner_23 dX5_coatOwner_25 dX5_coatOwner_28 hxt (Nat.le_of_ble_eq_true rfl) (Nat.le_of_ble_eq_true rfl) (Nat.le_of_ble_eq_true rfl) (Nat.le_of_ble_eq_true rfl) hlocks (fun t hAl h1 h2 => xc_T (w := u) (k := 2) 1 rfl rfl (by rw [hf]) hP hD hS h1 h2) hS.2.2 (Nat.le_of_ble_eq_true rfl) (Nat.le_of_ble_eq_true rfl)
def fX5_nextClaimant (u : OS) (x1 : Int32) : Nat × Int32 × OS :=
  (if fX5_requireChair x1 = 0 then (if (fX3_claimantByQueue (og0 u) x1) = (-1) then (2, 0, u) else (0, fX3_claimantByQueue (og0 u) x1, u)) else (fX5_requireChair x1, 0, u))
set_option maxHeartbeats 4000000 in
set_option maxRecDepth 100000 in
/-- nextClaimant -/
theorem kX5_nextClaimant (l : Launch) (hfl : l.stackTraces = false) (D : va_G) (ca : Nat → ClassId) (en ks vs : Nat → Nat) (ai : Nat → Nat → Nat) (ad bd : Nat → Nat) (sz : Nat) (u : OS) (x1 : Int32) (hoi : OI u) : HMet l yX5_nextClaimant wsX5_nextClaimant ({ frames := 7, cells := 2, slots := 12, locals := 102 }) D ca en ks vs ai ad bd sz u [.ref (ad 0), .int x1] ["java/lang/IndexOutOfBoundsException", "java/util/NoSuchElementException"] (fX5_nextClaimant u x1) := by
  unfold HMet
  refine vx_ofW (cc := cX5_nextClaimant) (maxL := 3) (ret := (some .int)) (by decide) rfl ?_
  intro p e s m args below meth c s₁ B hml hxt hv
  obtain ⟨rfl, hsz, hP, hK, hD0, hX⟩ := hv
  have hx := B.exec
  have hb := B.bytes
  have hr := B.returns
  have hts := atoms_spec (ws := wsX5_nextClaimant) B.pre
  have hown : s.vm.findClass RX5 = some m.cls := findClass_of_methodNamed B.named
  have hlocks := B.notSynchronized
  have hin5 : ∀ w ∈ wsX50, w ∈ wsX5_nextClaimant := by decide +kernel
  have hin3 : ∀ w ∈ wsX30, w ∈ wsX5_nextClaimant := by decide +kernel
  have hin := hin5
  subst hsz
  have hD := hD0.self (sz := s.heap.size)
  generalize hAe : va_A (OW ca en ai ad bd u) s.heap.size = A at hD hX ⊢
  have hA : ∀ q : Nat, s.heap.size ≤ q → A q := fun q h => by rw [← hAe]; exact Or.inr h
  have hS : va_S A s.heap s.heap [] := va_S.rf
  have hf : fX5_nextClaimant u x1 = fX5_nextClaimant u x1 := rfl
  refine W_entry (Nat.le_of_ble_eq_true rfl) (fun ls hl => ?_)
  have hl : lv_has ls 3 [(0, .ref (ad 0)), (1, .int x1)] := hl
  refine lv_iload_n hx hb dX5_nextClaimant_0 rfl (lv_at hl 1 rfl) ?_
  refine hcCSv (names := ["java/lang/IndexOutOfBoundsException"]) (k := fX5_requireChair x1) (As := [.int x1]) (rest := []) (HX_ok en ks vs) ⟨hx, hb, hml, hown, hts⟩ (kX5_requireChair l hfl D ca en ks vs _ x1) (va_cwS 1 hts gX5_nextClaimant_X5_requireChair rfl rfl rfl (by decide +kernel) ⟨Nat.le_of_ble_eq_true rfl, Nat.le_of_ble_eq_true rfl⟩) hK hP hD hS hA hX rfl hl.1 rfl (Nat.le_of_ble_eq_true rfl) ⟨(Nat.le_of_ble_eq_true rfl), (Nat.le_of_ble_eq_true rfl)⟩ dX5_nextClaimant_1 (fun i E9 ce q9 H locs hi hk9 hP hD hS h5 h6 h7 => ?_) (fun H locs z_1 hP hD hS => ?_)
  · have hf := hf.trans (if_neg (show ¬ fX5_requireChair x1 = 0 by rw [hk9]; exact Nat.succ_ne_zero i))
    exact vx_out (fun x h => (hxt x h).elim) hlocks h5 h6 h7 (xc_o (w := u) i (pre_get (m := ["java/util/NoSuchElementException"]) hi) hk9 (by rw [hf]) hP hD hS) hS.2.2 (Nat.le_of_ble_eq_true rfl) (Nat.le_of_ble_eq_true rfl)
  · have hf := hf.trans (if_pos z_1)
    refine lv_aload_n hx hb dX5_nextClaimant_4 rfl (lv_at hl 0 rfl) ?_
    refine va_get (D := D) (ci := 6) (v := .ref (ai 9 8)) (C := RX5) (T := TX5) (N := 10) hx hb hts hin hown hK hP 0 rfl rfl 0 (by decide) (hts (.fieldLink RX5 10 "HatReservations" "hall" "LHatReservations$Hall;") (by decide +kernel)) (fun _ h9 => h9) rfl dX5_nextClaimant_5 ?_
    refine lv_iload_n hx hb dX5_nextClaimant_8 rfl (lv_at hl 1 rfl) ?_
    refine hcRi (As := [.int x1]) (rest := []) 0 4 ⟨hx, hb, hml, hown, hts⟩ (kX3_claimantByQueue l D ca (ai 9) (og0 u) x1 ) (cwV 1 hts gX5_nextClaimant_X3_claimantByQueue rfl rfl rfl (by decide +kernel) ⟨Nat.le_of_ble_eq_true rfl, Nat.le_of_ble_eq_true rfl⟩) hK (OP_hall hP) rfl rfl rfl hl.1 rfl (Nat.le_of_ble_eq_true rfl) ⟨Nat.le_of_ble_eq_true rfl, Nat.le_of_ble_eq_true rfl⟩ dX5_nextClaimant_9 ?_
    refine lv_istore_n (lv' := [(2, .int (fX3_claimantByQueue (og0 u) x1)), (0, .ref (ad 0)), (1, .int x1)]) hx hb dX5_nextClaimant_12 rfl hl (by decide) rfl (fun ls hl => ?_)
    refine lv_iload_n hx hb dX5_nextClaimant_13 rfl (lv_at hl 0 rfl) ?_
    refine lv_iconst (v := (-1)) hx hb dX5_nextClaimant_14 (by decide) ?_
    refine lv_icmp_ne (tgt := 28) hx hb dX5_nextClaimant_15 (by decide) (fun c_15 => ?_) (fun c_15 => ?_)
    · have hf := hf.trans (if_neg c_15)
      refine lv_iload_n hx hb dX5_nextClaimant_28 rfl (lv_at hl 0 rfl) ?_
      refine vx_ret (W.widen (k := 2) (n := 12) (Nat.le_of_ble_eq_true rfl) (Nat.le_of_ble_eq_true rfl) ?_)
      exact W.iret (v := fX3_claimantByQueue (og0 u) x1) hx hb hr (fun t ht hW => ⟨⟨fX3_claimantByQueue (og0 u) x1, u, rfl, hf.symm, by rw [ht]; exact hP, va_K.moved hW.alike hK, hD⟩, hS.F ht⟩) hS.2.2 dX5_nextClaimant_29
    · have hf := hf.trans (if_pos c_15)
      exact thrNSE (is := 178) (text := "no guest would get the chair") hx hb hfl hown (hts (.classLink RX5 170 "java/util/NoSuchElementException") (by decide +kernel)) (hts (.initialized "java/util/NoSuchElementException") (by decide +kernel)) (fun w hw => hts w (List.mem_cons_of_mem _ (List.mem_append_left _ (List.mem_append_left _ (List.mem_append_right _ hw))))) hX (by decide +kernel) hS (by rw [hml]; exact hl.1) dX5_nextClaimant_18 dX5_nextClaimant_21 dX5_nextClaimant_22 dX5_nextClaimant_24 dX5_nextClaimant_27 hxt (Nat.le_of_ble_eq_true rfl) (Nat.le_of_ble_eq_true rfl) (Nat.le_of_ble_eq_true rfl) (Nat.le_of_ble_eq_true rfl) hlocks (fun t hAl h1 h2 => xc_T (w := u) (k := 2) 1 rfl rfl (by rw [hf]) hP hD hS h1 h2) hS.2.2 (Nat.le_of_ble_eq_true rfl) (Nat.le_of_ble_eq_true rfl)
def fX5_nextClaimantByTime (u : OS) (x1 : Int32) : Nat × Int32 × OS :=
  (if fX5_requireChair x1 = 0 then (0, 0, u) else (fX5_requireChair x1, 0, u))
set_option maxHeartbeats 4000000 in
set_option maxRecDepth 100000 in
/-- nextClaimantByTime -/
theorem kX5_nextClaimantByTime (l : Launch) (hfl : l.stackTraces = false) (D : va_G) (ca : Nat → ClassId) (en ks vs : Nat → Nat) (ai : Nat → Nat → Nat) (ad bd : Nat → Nat) (sz : Nat) (u : OS) (x1 : Int32) (hoi : OI u) (hdead : ¬ fX5_requireChair x1 = 0) : HMet l yX5_nextClaimantByTime wsX5_nextClaimantByTime ({ frames := 7, cells := 2, slots := 12, locals := 102 }) D ca en ks vs ai ad bd sz u [.ref (ad 0), .int x1] ["java/lang/IndexOutOfBoundsException", "java/util/NoSuchElementException"] (fX5_nextClaimantByTime u x1) := by
  unfold HMet
  refine vx_ofW (cc := cX5_nextClaimantByTime) (maxL := 3) (ret := (some .int)) (by decide) rfl ?_
  intro p e s m args below meth c s₁ B hml hxt hv
  obtain ⟨rfl, hsz, hP, hK, hD0, hX⟩ := hv
  have hx := B.exec
  have hb := B.bytes
  have hr := B.returns
  have hts := atoms_spec (ws := wsX5_nextClaimantByTime) B.pre
  have hown : s.vm.findClass RX5 = some m.cls := findClass_of_methodNamed B.named
  have hlocks := B.notSynchronized
  have hin5 : ∀ w ∈ wsX50, w ∈ wsX5_nextClaimantByTime := by decide +kernel
  have hin3 : ∀ w ∈ wsX30, w ∈ wsX5_nextClaimantByTime := by decide +kernel
  have hin := hin5
  subst hsz
  have hD := hD0.self (sz := s.heap.size)
  generalize hAe : va_A (OW ca en ai ad bd u) s.heap.size = A at hD hX ⊢
  have hA : ∀ q : Nat, s.heap.size ≤ q → A q := fun q h => by rw [← hAe]; exact Or.inr h
  have hS : va_S A s.heap s.heap [] := va_S.rf
  have hf : fX5_nextClaimantByTime u x1 = fX5_nextClaimantByTime u x1 := rfl
  refine W_entry (Nat.le_of_ble_eq_true rfl) (fun ls hl => ?_)
  have hl : lv_has ls 3 [(0, .ref (ad 0)), (1, .int x1)] := hl
  refine lv_iload_n hx hb dX5_nextClaimantByTime_0 rfl (lv_at hl 1 rfl) ?_
  refine hcCSv (names := ["java/lang/IndexOutOfBoundsException"]) (k := fX5_requireChair x1) (As := [.int x1]) (rest := []) (HX_ok en ks vs) ⟨hx, hb, hml, hown, hts⟩ (kX5_requireChair l hfl D ca en ks vs _ x1) (va_cwS 1 hts gX5_nextClaimantByTime_X5_requireChair rfl rfl rfl (by decide +kernel) ⟨Nat.le_of_ble_eq_true rfl, Nat.le_of_ble_eq_true rfl⟩) hK hP hD hS hA hX rfl hl.1 rfl (Nat.le_of_ble_eq_true rfl) ⟨(Nat.le_of_ble_eq_true rfl), (Nat.le_of_ble_eq_true rfl)⟩ dX5_nextClaimantByTime_1 (fun i E9 ce q9 H locs hi hk9 hP hD hS h5 h6 h7 => ?_) (fun H locs z_1 hP hD hS => ?_)
  · have hf := hf.trans (if_neg (show ¬ fX5_requireChair x1 = 0 by rw [hk9]; exact Nat.succ_ne_zero i))
    exact vx_out (fun x h => (hxt x h).elim) hlocks h5 h6 h7 (xc_o (w := u) i (pre_get (m := ["java/util/NoSuchElementException"]) hi) hk9 (by rw [hf]) hP hD hS) hS.2.2 (Nat.le_of_ble_eq_true rfl) (Nat.le_of_ble_eq_true rfl)
  · exact absurd z_1 hdead
