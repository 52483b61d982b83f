set_option maxHeartbeats 4000000 in
set_option maxRecDepth 100000 in
/-- become: the whole state of the other hall -/
theorem kX3_become (l : Launch) (D : va_G) (ca : Nat → ClassId) (a b : Nat → Nat) (sz : Nat) (u w : HS) : Met l yX3_become wsX3_become ({ frames := 1, cells := 0, slots := 0, locals := 18 }) (MPc D ca sz (HW ca b w ++ HW ca a u) [.ref (a 8), .ref (b 8)]) (va_Qv (fun v => v = w) (MB D ca (va_A (HW ca b w ++ HW ca a u) sz) (fun v => HW ca b w ++ HW ca a v)) (va_A (HW ca b w ++ HW ca a u) sz)) 0 0 (va_A (HW ca b w ++ HW ca a u) sz) := by
  refine Met.ofW (cc := cX3_become) (maxL := 2) (ret := none) (by decide) rfl ?_
  intro p e s m args below meth c s₁ B hml hv
  obtain ⟨rfl, hsz, hP, hK, hD0⟩ := hv
  have hx := B.exec
  have hb := B.bytes
  have hr := B.returns
  have hts := atoms_spec (ws := wsX3_become) B.pre
  have hown : s.vm.findClass RX3 = some m.cls := findClass_of_methodNamed B.named
  have hlocks := B.notSynchronized
  have hin3 : ∀ w ∈ wsX30, w ∈ wsX3_become := by decide +kernel
  subst hsz
  have hD := hD0.self (sz := s.heap.size)
  generalize hAe : va_A (HW ca b w ++ HW ca a u) s.heap.size = A at hD ⊢
  have hA : ∀ q : Nat, s.heap.size ≤ q → A q := fun q h => by rw [← hAe]; exact Or.inr h
  have hS : va_S A s.heap s.heap [] := va_S.rf
  refine W_entry (Nat.le_of_ble_eq_true rfl) (fun ls hl => ?_)
  have hl : lv_has ls 2 [(0, .ref (a 8)), (1, .ref (b 8))] := hl
  refine lv_aload_n hx hb dX3_become_0 rfl (lv_at hl 1 rfl) ?_
  refine va_get (D := D) (ci := 4) (v := .ref (b 0)) (C := RX3) (T := TX3) (N := 15) hx hb hts hin3 hown hK hP 0 rfl rfl 0 (by decide) (hts (.fieldLink RX3 9 "HatReservations$Hall" "feathers" "[I") (by decide +kernel)) (fun _ h9 => h9) rfl dX3_become_1 ?_
  refine lv_iconst (v := 0) hx hb dX3_become_4 (by decide) ?_
  refine lv_aload_n hx hb dX3_become_5 rfl (lv_at hl 0 rfl) ?_
  refine va_get (D := D) (ci := 4) (v := .ref (a 0)) (C := RX3) (T := TX3) (N := 15) hx hb hts hin3 hown hK hP 9 rfl rfl 0 (by decide) (hts (.fieldLink RX3 9 "HatReservations$Hall" "feathers" "[I") (by decide +kernel)) (fun _ h9 => h9) rfl dX3_become_6 ?_
  refine lv_iconst (v := 0) hx hb dX3_become_9 (by decide) ?_
  refine lv_bipush (v := 8) hx hb dX3_become_10 (by decide) ?_
  refine copyiW (f := h0 w) (g := h0 u) 8 hx hb (by rw [hml]; exact hl.1.symm) hown (hts (.methodLink RX3 59 arraycopyName) (by decide +kernel)) (hts (.native arraycopyName) (by decide +kernel)) (hts (.static arraycopyName) (by decide +kernel)) (hts (.initialized "java/lang/System") (by decide +kernel)) hK hP hD hS 1 10 rfl rfl (by decide) (by decide) (Nat.le_of_ble_eq_true rfl) (Nat.le_of_ble_eq_true rfl) dX3_become_12 (fun H locs hP hD hS => ?_)
  have hP : va_P D vwCl (HW ca b w ++ HW ca a (s0 (h0 w) u)) H := hP
  have hD : va_D A (HW ca b w ++ HW ca a (s0 (h0 w) u)) := hD
  refine lv_aload_n hx hb dX3_become_15 rfl (lv_at hl 1 rfl) ?_
  refine va_get (D := D) (ci := 4) (v := .ref (b 1)) (C := RX3) (T := TX3) (N := 15) hx hb hts hin3 hown hK hP 0 rfl rfl 1 (by decide) (hts (.fieldLink RX3 15 "HatReservations$Hall" "brims" "[I") (by decide +kernel)) (fun _ h9 => h9) rfl dX3_become_16 ?_
  refine lv_iconst (v := 0) hx hb dX3_become_19 (by decide) ?_
  refine lv_aload_n hx hb dX3_become_20 rfl (lv_at hl 0 rfl) ?_
  refine va_get (D := D) (ci := 4) (v := .ref (a 1)) (C := RX3) (T := TX3) (N := 15) hx hb hts hin3 hown hK hP 9 rfl rfl 1 (by decide) (hts (.fieldLink RX3 15 "HatReservations$Hall" "brims" "[I") (by decide +kernel)) (fun _ h9 => h9) rfl dX3_become_21 ?_
  refine lv_iconst (v := 0) hx hb dX3_become_24 (by decide) ?_
  refine lv_bipush (v := 8) hx hb dX3_become_25 (by decide) ?_
  refine copyiW (f := h1 w) (g := h1 u) 8 hx hb (by rw [hml]; exact hl.1.symm) hown (hts (.methodLink RX3 59 arraycopyName) (by decide +kernel)) (hts (.native arraycopyName) (by decide +kernel)) (hts (.static arraycopyName) (by decide +kernel)) (hts (.initialized "java/lang/System") (by decide +kernel)) hK hP hD hS 2 11 rfl rfl (by decide) (by decide) (Nat.le_of_ble_eq_true rfl) (Nat.le_of_ble_eq_true rfl) dX3_become_27 (fun H locs hP hD hS => ?_)
  have hP : va_P D vwCl (HW ca b w ++ HW ca a (s1 (h1 w) (s0 (h0 w) u))) H := hP
  have hD : va_D A (HW ca b w ++ HW ca a (s1 (h1 w) (s0 (h0 w) u))) := hD
  refine lv_aload_n hx hb dX3_become_30 rfl (lv_at hl 1 rfl) ?_
  refine va_get (D := D) (ci := 4) (v := .ref (b 2)) (C := RX3) (T := TX3) (N := 15) hx hb hts hin3 hown hK hP 0 rfl rfl 2 (by decide) (hts (.fieldLink RX3 18 "HatReservations$Hall" "hatChairs" "[I") (by decide +kernel)) (fun _ h9 => h9) rfl dX3_become_31 ?_
  refine lv_iconst (v := 0) hx hb dX3_become_34 (by decide) ?_
  refine lv_aload_n hx hb dX3_become_35 rfl (lv_at hl 0 rfl) ?_
  refine va_get (D := D) (ci := 4) (v := .ref (a 2)) (C := RX3) (T := TX3) (N := 15) hx hb hts hin3 hown hK hP 9 rfl rfl 2 (by decide) (hts (.fieldLink RX3 18 "HatReservations$Hall" "hatChairs" "[I") (by decide +kernel)) (fun _ h9 => h9) rfl dX3_become_36 ?_
  refine lv_iconst (v := 0) hx hb dX3_become_39 (by decide) ?_
  refine lv_bipush (v := 8) hx hb dX3_become_40 (by decide) ?_
  refine copyiW (f := h2 w) (g := h2 u) 8 hx hb (by rw [hml]; exact hl.1.symm) hown (hts (.methodLink RX3 59 arraycopyName) (by decide +kernel)) (hts (.native arraycopyName) (by decide +kernel)) (hts (.static arraycopyName) (by decide +kernel)) (hts (.initialized "java/lang/System") (by decide +kernel)) hK hP hD hS 3 12 rfl rfl (by decide) (by decide) (Nat.le_of_ble_eq_true rfl) (Nat.le_of_ble_eq_true rfl) dX3_become_42 (fun H locs hP hD hS => ?_)
  have hP : va_P D vwCl (HW ca b w ++ HW ca a (s2 (h2 w) (s1 (h1 w) (s0 (h0 w) u)))) H := hP
  have hD : va_D A (HW ca b w ++ HW ca a (s2 (h2 w) (s1 (h1 w) (s0 (h0 w) u)))) := hD
  refine lv_aload_n hx hb dX3_become_45 rfl (lv_at hl 1 rfl) ?_
  refine va_get (D := D) (ci := 4) (v := .ref (b 3)) (C := RX3) (T := TX3) (N := 15) hx hb hts hin3 hown hK hP 0 rfl rfl 3 (by decide) (hts (.fieldLink RX3 21 "HatReservations$Hall" "touchTimes" "[I") (by decide +kernel)) (fun _ h9 => h9) rfl dX3_become_46 ?_
  refine lv_iconst (v := 0) hx hb dX3_become_49 (by decide) ?_
  refine lv_aload_n hx hb dX3_become_50 rfl (lv_at hl 0 rfl) ?_
  refine va_get (D := D) (ci := 4) (v := .ref (a 3)) (C := RX3) (T := TX3) (N := 15) hx hb hts hin3 hown hK hP 9 rfl rfl 3 (by decide) (hts (.fieldLink RX3 21 "HatReservations$Hall" "touchTimes" "[I") (by decide +kernel)) (fun _ h9 => h9) rfl dX3_become_51 ?_
  refine lv_iconst (v := 0) hx hb dX3_become_54 (by decide) ?_
  refine lv_bipush (v := 8) hx hb dX3_become_55 (by decide) ?_
  refine copyiW (f := h3 w) (g := h3 u) 8 hx hb (by rw [hml]; exact hl.1.symm) hown (hts (.methodLink RX3 59 arraycopyName) (by decide +kernel)) (hts (.native arraycopyName) (by decide +kernel)) (hts (.static arraycopyName) (by decide +kernel)) (hts (.initialized "java/lang/System") (by decide +kernel)) hK hP hD hS 4 13 rfl rfl (by decide) (by decide) (Nat.le_of_ble_eq_true rfl) (Nat.le_of_ble_eq_true rfl) dX3_become_57 (fun H locs hP hD hS => ?_)
  have hP : va_P D vwCl (HW ca b w ++ HW ca a (s3 (h3 w) (s2 (h2 w) (s1 (h1 w) (s0 (h0 w) u))))) H := hP
  have hD : va_D A (HW ca b w ++ HW ca a (s3 (h3 w) (s2 (h2 w) (s1 (h1 w) (s0 (h0 w) u))))) := hD
  refine lv_aload_n hx hb dX3_become_60 rfl (lv_at hl 1 rfl) ?_
  refine va_get (D := D) (ci := 4) (v := .ref (b 4)) (C := RX3) (T := TX3) (N := 15) hx hb hts hin3 hown hK hP 0 rfl rfl 4 (by decide) (hts (.fieldLink RX3 24 "HatReservations$Hall" "covers" "[J") (by decide +kernel)) (fun _ h9 => h9) rfl dX3_become_61 ?_
  refine lv_iconst (v := 0) hx hb dX3_become_64 (by decide) ?_
  refine lv_aload_n hx hb dX3_become_65 rfl (lv_at hl 0 rfl) ?_
  refine va_get (D := D) (ci := 4) (v := .ref (a 4)) (C := RX3) (T := TX3) (N := 15) hx hb hts hin3 hown hK hP 9 rfl rfl 4 (by decide) (hts (.fieldLink RX3 24 "HatReservations$Hall" "covers" "[J") (by decide +kernel)) (fun _ h9 => h9) rfl dX3_become_66 ?_
  refine lv_iconst (v := 0) hx hb dX3_become_69 (by decide) ?_
  refine lv_bipush (v := 8) hx hb dX3_become_70 (by decide) ?_
  refine copylW (f := h4 w) (g := h4 u) 8 hx hb (by rw [hml]; exact hl.1.symm) hown (hts (.methodLink RX3 59 arraycopyName) (by decide +kernel)) (hts (.native arraycopyName) (by decide +kernel)) (hts (.static arraycopyName) (by decide +kernel)) (hts (.initialized "java/lang/System") (by decide +kernel)) hK hP hD hS 5 14 rfl rfl (by decide) (by decide) (Nat.le_of_ble_eq_true rfl) (Nat.le_of_ble_eq_true rfl) dX3_become_72 (fun H locs hP hD hS => ?_)
  have hP : va_P D vwCl (HW ca b w ++ HW ca a (s4 (h4 w) (s3 (h3 w) (s2 (h2 w) (s1 (h1 w) (s0 (h0 w) u)))))) H := hP
  have hD : va_D A (HW ca b w ++ HW ca a (s4 (h4 w) (s3 (h3 w) (s2 (h2 w) (s1 (h1 w) (s0 (h0 w) u)))))) := hD
  refine lv_aload_n hx hb dX3_become_75 rfl (lv_at hl 1 rfl) ?_
  refine va_get (D := D) (ci := 4) (v := .ref (b 5)) (C := RX3) (T := TX3) (N := 15) hx hb hts hin3 hown hK hP 0 rfl rfl 5 (by decide) (hts (.fieldLink RX3 28 "HatReservations$Hall" "coatChairs" "[I") (by decide +kernel)) (fun _ h9 => h9) rfl dX3_become_76 ?_
  refine lv_iconst (v := 0) hx hb dX3_become_79 (by decide) ?_
  refine lv_aload_n hx hb dX3_become_80 rfl (lv_at hl 0 rfl) ?_
  refine va_get (D := D) (ci := 4) (v := .ref (a 5)) (C := RX3) (T := TX3) (N := 15) hx hb hts hin3 hown hK hP 9 rfl rfl 5 (by decide) (hts (.fieldLink RX3 28 "HatReservations$Hall" "coatChairs" "[I") (by decide +kernel)) (fun _ h9 => h9) rfl dX3_become_81 ?_
  refine lv_iconst (v := 0) hx hb dX3_become_84 (by decide) ?_
  refine lv_bipush (v := 8) hx hb dX3_become_85 (by decide) ?_
  refine copyiW (f := h5 w) (g := h5 u) 8 hx hb (by rw [hml]; exact hl.1.symm) hown (hts (.methodLink RX3 59 arraycopyName) (by decide +kernel)) (hts (.native arraycopyName) (by decide +kernel)) (hts (.static arraycopyName) (by decide +kernel)) (hts (.initialized "java/lang/System") (by decide +kernel)) hK hP hD hS 6 15 rfl rfl (by decide) (by decide) (Nat.le_of_ble_eq_true rfl) (Nat.le_of_ble_eq_true rfl) dX3_become_87 (fun H locs hP hD hS => ?_)
  have hP : va_P D vwCl (HW ca b w ++ HW ca a (s5 (h5 w) (s4 (h4 w) (s3 (h3 w) (s2 (h2 w) (s1 (h1 w) (s0 (h0 w) u))))))) H := hP
  have hD : va_D A (HW ca b w ++ HW ca a (s5 (h5 w) (s4 (h4 w) (s3 (h3 w) (s2 (h2 w) (s1 (h1 w) (s0 (h0 w) u))))))) := hD
  refine lv_aload_n hx hb dX3_become_90 rfl (lv_at hl 1 rfl) ?_
  refine va_get (D := D) (ci := 4) (v := .ref (b 6)) (C := RX3) (T := TX3) (N := 15) hx hb hts hin3 hown hK hP 0 rfl rfl 6 (by decide) (hts (.fieldLink RX3 31 "HatReservations$Hall" "coatPositions" "[I") (by decide +kernel)) (fun _ h9 => h9) rfl dX3_become_91 ?_
  refine lv_iconst (v := 0) hx hb dX3_become_94 (by decide) ?_
  refine lv_aload_n hx hb dX3_become_95 rfl (lv_at hl 0 rfl) ?_
  refine va_get (D := D) (ci := 4) (v := .ref (a 6)) (C := RX3) (T := TX3) (N := 15) hx hb hts hin3 hown hK hP 9 rfl rfl 6 (by decide) (hts (.fieldLink RX3 31 "HatReservations$Hall" "coatPositions" "[I") (by decide +kernel)) (fun _ h9 => h9) rfl dX3_become_96 ?_
  refine lv_iconst (v := 0) hx hb dX3_become_99 (by decide) ?_
  refine lv_bipush (v := 8) hx hb dX3_become_100 (by decide) ?_
  refine copyiW (f := h6 w) (g := h6 u) 8 hx hb (by rw [hml]; exact hl.1.symm) hown (hts (.methodLink RX3 59 arraycopyName) (by decide +kernel)) (hts (.native arraycopyName) (by decide +kernel)) (hts (.static arraycopyName) (by decide +kernel)) (hts (.initialized "java/lang/System") (by decide +kernel)) hK hP hD hS 7 16 rfl rfl (by decide) (by decide) (Nat.le_of_ble_eq_true rfl) (Nat.le_of_ble_eq_true rfl) dX3_become_102 (fun H locs hP hD hS => ?_)
  have hP : va_P D vwCl (HW ca b w ++ HW ca a (s6 (h6 w) (s5 (h5 w) (s4 (h4 w) (s3 (h3 w) (s2 (h2 w) (s1 (h1 w) (s0 (h0 w) u)))))))) H := hP
  have hD : va_D A (HW ca b w ++ HW ca a (s6 (h6 w) (s5 (h5 w) (s4 (h4 w) (s3 (h3 w) (s2 (h2 w) (s1 (h1 w) (s0 (h0 w) u)))))))) := hD
  refine lv_aload_n hx hb dX3_become_105 rfl (lv_at hl 1 rfl) ?_
  refine va_get (D := D) (ci := 4) (v := .ref (b 7)) (C := RX3) (T := TX3) (N := 15) hx hb hts hin3 hown hK hP 0 rfl rfl 7 (by decide) (hts (.fieldLink RX3 34 "HatReservations$Hall" "coatOrders" "[I") (by decide +kernel)) (fun _ h9 => h9) rfl dX3_become_106 ?_
  refine lv_iconst (v := 0) hx hb dX3_become_109 (by decide) ?_
  refine lv_aload_n hx hb dX3_become_110 rfl (lv_at hl 0 rfl) ?_
  refine va_get (D := D) (ci := 4) (v := .ref (a 7)) (C := RX3) (T := TX3) (N := 15) hx hb hts hin3 hown hK hP 9 rfl rfl 7 (by decide) (hts (.fieldLink RX3 34 "HatReservations$Hall" "coatOrders" "[I") (by decide +kernel)) (fun _ h9 => h9) rfl dX3_become_111 ?_
  refine lv_iconst (v := 0) hx hb dX3_become_114 (by decide) ?_
  refine lv_bipush (v := 8) hx hb dX3_become_115 (by decide) ?_
  refine copyiW (f := h7 w) (g := h7 u) 8 hx hb (by rw [hml]; exact hl.1.symm) hown (hts (.methodLink RX3 59 arraycopyName) (by decide +kernel)) (hts (.native arraycopyName) (by decide +kernel)) (hts (.static arraycopyName) (by decide +kernel)) (hts (.initialized "java/lang/System") (by decide +kernel)) hK hP hD hS 8 17 rfl rfl (by decide) (by decide) (Nat.le_of_ble_eq_true rfl) (Nat.le_of_ble_eq_true rfl) dX3_become_117 (fun H locs hP hD hS => ?_)
  have hP : va_P D vwCl (HW ca b w ++ HW ca a (s7 (h7 w) (s6 (h6 w) (s5 (h5 w) (s4 (h4 w) (s3 (h3 w) (s2 (h2 w) (s1 (h1 w) (s0 (h0 w) u))))))))) H := hP
  have hD : va_D A (HW ca b w ++ HW ca a (s7 (h7 w) (s6 (h6 w) (s5 (h5 w) (s4 (h4 w) (s3 (h3 w) (s2 (h2 w) (s1 (h1 w) (s0 (h0 w) u))))))))) := hD
  refine lv_aload_n hx hb dX3_become_120 rfl (lv_at hl 0 rfl) ?_
  refine lv_aload_n hx hb dX3_become_121 rfl (lv_at hl 1 rfl) ?_
  refine va_get (D := D) (ci := 4) (v := .int (h8 w)) (C := RX3) (T := TX3) (N := 15) hx hb hts hin3 hown hK hP 0 rfl rfl 8 (by decide) (hts (.fieldLink RX3 37 "HatReservations$Hall" "coatsEverLeft" "I") (by decide +kernel)) (fun _ h9 => h9) rfl dX3_become_122 ?_
  refine va_put (D := D) (ci := 4) (v := .int (h8 w)) (ty := .int) (C := RX3) (T := TX3) (N := 15) hx hb hts hin3 tyX3 tyX3_ok nmX3 hown hK hP hD hS 9 rfl rfl 8 (by decide) (hts (.fieldLink RX3 37 "HatReservations$Hall" "coatsEverLeft" "I") (by decide +kernel)) (fun _ h9 => h9) rfl (by decide +kernel) rfl rfl (Nat.le_of_ble_eq_true rfl) dX3_become_125 (fun H locs hP hD hS => ?_)
  have hP : va_P D vwCl (HW ca b w ++ HW ca a (s8 (h8 w) (s7 (h7 w) (s6 (h6 w) (s5 (h5 w) (s4 (h4 w) (s3 (h3 w) (s2 (h2 w) (s1 (h1 w) (s0 (h0 w) u)))))))))) H := hP
  have hD : va_D A (HW ca b w ++ HW ca a (s8 (h8 w) (s7 (h7 w) (s6 (h6 w) (s5 (h5 w) (s4 (h4 w) (s3 (h3 w) (s2 (h2 w) (s1 (h1 w) (s0 (h0 w) u)))))))))) := hD
  refine lv_aload_n hx hb dX3_become_128 rfl (lv_at hl 0 rfl) ?_
  refine lv_aload_n hx hb dX3_become_129 rfl (lv_at hl 1 rfl) ?_
  refine va_get (D := D) (ci := 4) (v := .int (h9 w)) (C := RX3) (T := TX3) (N := 15) hx hb hts hin3 hown hK hP 0 rfl rfl 9 (by decide) (hts (.fieldLink RX3 41 "HatReservations$Hall" "guests" "I") (by decide +kernel)) (fun _ h9 => h9) rfl dX3_become_130 ?_
  refine va_put (D := D) (ci := 4) (v := .int (h9 w)) (ty := .int) (C := RX3) (T := TX3) (N := 15) hx hb hts hin3 tyX3 tyX3_ok nmX3 hown hK hP hD hS 9 rfl rfl 9 (by decide) (hts (.fieldLink RX3 41 "HatReservations$Hall" "guests" "I") (by decide +kernel)) (fun _ h9 => h9) rfl (by decide +kernel) rfl rfl (Nat.le_of_ble_eq_true rfl) dX3_become_133 (fun H locs hP hD hS => ?_)
  have hP : va_P D vwCl (HW ca b w ++ HW ca a (s9 (h9 w) (s8 (h8 w) (s7 (h7 w) (s6 (h6 w) (s5 (h5 w) (s4 (h4 w) (s3 (h3 w) (s2 (h2 w) (s1 (h1 w) (s0 (h0 w) u))))))))))) H := hP
  have hD : va_D A (HW ca b w ++ HW ca a (s9 (h9 w) (s8 (h8 w) (s7 (h7 w) (s6 (h6 w) (s5 (h5 w) (s4 (h4 w) (s3 (h3 w) (s2 (h2 w) (s1 (h1 w) (s0 (h0 w) u))))))))))) := hD
  refine lv_aload_n hx hb dX3_become_136 rfl (lv_at hl 0 rfl) ?_
  refine lv_aload_n hx hb dX3_become_137 rfl (lv_at hl 1 rfl) ?_
  refine va_get (D := D) (ci := 4) (v := .int (h10 w)) (C := RX3) (T := TX3) (N := 15) hx hb hts hin3 hown hK hP 0 rfl rfl 10 (by decide) (hts (.fieldLink RX3 44 "HatReservations$Hall" "time" "I") (by decide +kernel)) (fun _ h9 => h9) rfl dX3_become_138 ?_
  refine va_put (D := D) (ci := 4) (v := .int (h10 w)) (ty := .int) (C := RX3) (T := TX3) (N := 15) hx hb hts hin3 tyX3 tyX3_ok nmX3 hown hK hP hD hS 9 rfl rfl 10 (by decide) (hts (.fieldLink RX3 44 "HatReservations$Hall" "time" "I") (by decide +kernel)) (fun _ h9 => h9) rfl (by decide +kernel) rfl rfl (Nat.le_of_ble_eq_true rfl) dX3_become_141 (fun H locs hP hD hS => ?_)
  have hP : va_P D vwCl (HW ca b w ++ HW ca a (s10 (h10 w) (s9 (h9 w) (s8 (h8 w) (s7 (h7 w) (s6 (h6 w) (s5 (h5 w) (s4 (h4 w) (s3 (h3 w) (s2 (h2 w) (s1 (h1 w) (s0 (h0 w) u)))))))))))) H := hP
  have hD : va_D A (HW ca b w ++ HW ca a (s10 (h10 w) (s9 (h9 w) (s8 (h8 w) (s7 (h7 w) (s6 (h6 w) (s5 (h5 w) (s4 (h4 w) (s3 (h3 w) (s2 (h2 w) (s1 (h1 w) (s0 (h0 w) u)))))))))))) := hD
  refine lv_aload_n hx hb dX3_become_144 rfl (lv_at hl 0 rfl) ?_
  refine lv_aload_n hx hb dX3_become_145 rfl (lv_at hl 1 rfl) ?_
  refine va_get (D := D) (ci := 4) (v := .int (h11 w)) (C := RX3) (T := TX3) (N := 15) hx hb hts hin3 hown hK hP 0 rfl rfl 11 (by decide) (hts (.fieldLink RX3 47 "HatReservations$Hall" "swept" "I") (by decide +kernel)) (fun _ h9 => h9) rfl dX3_become_146 ?_
  refine va_put (D := D) (ci := 4) (v := .int (h11 w)) (ty := .int) (C := RX3) (T := TX3) (N := 15) hx hb hts hin3 tyX3 tyX3_ok nmX3 hown hK hP hD hS 9 rfl rfl 11 (by decide) (hts (.fieldLink RX3 47 "HatReservations$Hall" "swept" "I") (by decide +kernel)) (fun _ h9 => h9) rfl (by decide +kernel) rfl rfl (Nat.le_of_ble_eq_true rfl) dX3_become_149 (fun H locs hP hD hS => ?_)
  have hP : va_P D vwCl (HW ca b w ++ HW ca a (s11 (h11 w) (s10 (h10 w) (s9 (h9 w) (s8 (h8 w) (s7 (h7 w) (s6 (h6 w) (s5 (h5 w) (s4 (h4 w) (s3 (h3 w) (s2 (h2 w) (s1 (h1 w) (s0 (h0 w) u))))))))))))) H := hP
  have hD : va_D A (HW ca b w ++ HW ca a (s11 (h11 w) (s10 (h10 w) (s9 (h9 w) (s8 (h8 w) (s7 (h7 w) (s6 (h6 w) (s5 (h5 w) (s4 (h4 w) (s3 (h3 w) (s2 (h2 w) (s1 (h1 w) (s0 (h0 w) u))))))))))))) := hD
  refine lv_aload_n hx hb dX3_become_152 rfl (lv_at hl 0 rfl) ?_
  refine lv_aload_n hx hb dX3_become_153 rfl (lv_at hl 1 rfl) ?_
  refine va_get (D := D) (ci := 4) (v := .int (h12 w)) (C := RX3) (T := TX3) (N := 15) hx hb hts hin3 hown hK hP 0 rfl rfl 12 (by decide) (hts (.fieldLink RX3 50 "HatReservations$Hall" "lapsed" "I") (by decide +kernel)) (fun _ h9 => h9) rfl dX3_become_154 ?_
  refine va_put (D := D) (ci := 4) (v := .int (h12 w)) (ty := .int) (C := RX3) (T := TX3) (N := 15) hx hb hts hin3 tyX3 tyX3_ok nmX3 hown hK hP hD hS 9 rfl rfl 12 (by decide) (hts (.fieldLink RX3 50 "HatReservations$Hall" "lapsed" "I") (by decide +kernel)) (fun _ h9 => h9) rfl (by decide +kernel) rfl rfl (Nat.le_of_ble_eq_true rfl) dX3_become_157 (fun H locs hP hD hS => ?_)
  have hP : va_P D vwCl (HW ca b w ++ HW ca a (s12 (h12 w) (s11 (h11 w) (s10 (h10 w) (s9 (h9 w) (s8 (h8 w) (s7 (h7 w) (s6 (h6 w) (s5 (h5 w) (s4 (h4 w) (s3 (h3 w) (s2 (h2 w) (s1 (h1 w) (s0 (h0 w) u)))))))))))))) H := hP
  have hD : va_D A (HW ca b w ++ HW ca a (s12 (h12 w) (s11 (h11 w) (s10 (h10 w) (s9 (h9 w) (s8 (h8 w) (s7 (h7 w) (s6 (h6 w) (s5 (h5 w) (s4 (h4 w) (s3 (h3 w) (s2 (h2 w) (s1 (h1 w) (s0 (h0 w) u)))))))))))))) := hD
  refine lv_aload_n hx hb dX3_become_160 rfl (lv_at hl 0 rfl) ?_
  refine lv_aload_n hx hb dX3_become_161 rfl (lv_at hl 1 rfl) ?_
  refine va_get (D := D) (ci := 4) (v := .int (h13 w)) (C := RX3) (T := TX3) (N := 15) hx hb hts hin3 hown hK hP 0 rfl rfl 13 (by decide) (hts (.fieldLink RX3 53 "HatReservations$Hall" "taken" "I") (by decide +kernel)) (fun _ h9 => h9) rfl dX3_become_162 ?_
  refine va_put (D := D) (ci := 4) (v := .int (h13 w)) (ty := .int) (C := RX3) (T := TX3) (N := 15) hx hb hts hin3 tyX3 tyX3_ok nmX3 hown hK hP hD hS 9 rfl rfl 13 (by decide) (hts (.fieldLink RX3 53 "HatReservations$Hall" "taken" "I") (by decide +kernel)) (fun _ h9 => h9) rfl (by decide +kernel) rfl rfl (Nat.le_of_ble_eq_true rfl) dX3_become_165 (fun H locs hP hD hS => ?_)
  have hP : va_P D vwCl (HW ca b w ++ HW ca a (s13 (h13 w) (s12 (h12 w) (s11 (h11 w) (s10 (h10 w) (s9 (h9 w) (s8 (h8 w) (s7 (h7 w) (s6 (h6 w) (s5 (h5 w) (s4 (h4 w) (s3 (h3 w) (s2 (h2 w) (s1 (h1 w) (s0 (h0 w) u))))))))))))))) H := hP
  have hD : va_D A (HW ca b w ++ HW ca a (s13 (h13 w) (s12 (h12 w) (s11 (h11 w) (s10 (h10 w) (s9 (h9 w) (s8 (h8 w) (s7 (h7 w) (s6 (h6 w) (s5 (h5 w) (s4 (h4 w) (s3 (h3 w) (s2 (h2 w) (s1 (h1 w) (s0 (h0 w) u))))))))))))))) := hD
  refine lv_aload_n hx hb dX3_become_168 rfl (lv_at hl 0 rfl) ?_
  refine lv_aload_n hx hb dX3_become_169 rfl (lv_at hl 1 rfl) ?_
  refine va_get (D := D) (ci := 4) (v := .int (h14 w)) (C := RX3) (T := TX3) (N := 15) hx hb hts hin3 hown hK hP 0 rfl rfl 14 (by decide) (hts (.fieldLink RX3 56 "HatReservations$Hall" "won" "I") (by decide +kernel)) (fun _ h9 => h9) rfl dX3_become_170 ?_
  refine va_put (D := D) (ci := 4) (v := .int (h14 w)) (ty := .int) (C := RX3) (T := TX3) (N := 15) hx hb hts hin3 tyX3 tyX3_ok nmX3 hown hK hP hD hS 9 rfl rfl 14 (by decide) (hts (.fieldLink RX3 56 "HatReservations$Hall" "won" "I") (by decide +kernel)) (fun _ h9 => h9) rfl (by decide +kernel) rfl rfl (Nat.le_of_ble_eq_true rfl) dX3_become_173 (fun H locs hP hD hS => ?_)
  have hP : va_P D vwCl (HW ca b w ++ HW ca a (s14 (h14 w) (s13 (h13 w) (s12 (h12 w) (s11 (h11 w) (s10 (h10 w) (s9 (h9 w) (s8 (h8 w) (s7 (h7 w) (s6 (h6 w) (s5 (h5 w) (s4 (h4 w) (s3 (h3 w) (s2 (h2 w) (s1 (h1 w) (s0 (h0 w) u)))))))))))))))) H := hP
  have hD : va_D A (HW ca b w ++ HW ca a (s14 (h14 w) (s13 (h13 w) (s12 (h12 w) (s11 (h11 w) (s10 (h10 w) (s9 (h9 w) (s8 (h8 w) (s7 (h7 w) (s6 (h6 w) (s5 (h5 w) (s4 (h4 w) (s3 (h3 w) (s2 (h2 w) (s1 (h1 w) (s0 (h0 w) u)))))))))))))))) := hD
  exact W.vret hx hb hr (fun t ht hW => ⟨⟨w, rfl, rfl, by rw [ht]; exact hP, va_K.moved hW.alike hK, hD⟩, hS.F ht⟩) hS.2.2 dX3_become_176
/-- a new hall -/
def fX3_init_105 : Nat → Nat → HS → HS
  | 0, _, v => v
  | n + 1, k, v => fX3_init_105 n (k + 1) (s5 (upd (h5 v) k (-1)) (s2 (upd (h2 v) k (-1)) v))
def Hz : HS := ((fun _ => 0), (fun _ => 0), (fun _ => 0), (fun _ => 0), (fun _ => 0), (fun _ => 0), (fun _ => 0), (fun _ => 0), 0, 0, 0, 0, 0, 0, 0)
def Hnew : HS := fX3_init_105 8 0 Hz

set_option maxHeartbeats 4000000 in
set_option maxRecDepth 100000 in
theorem kX3_init (l : Launch) (D : va_G) (ca : Nat → ClassId) (h : Nat) (sz : Nat) : Met l yX3_init wsX3_init ({ frames := 1, cells := 8, slots := 64, locals := 12 }) (MPc D ca sz [(h, .inr (4, [.null, .null, .null, .null, .null, .null, .null, .null, .int 0, .int 0, .int 0, .int 0, .int 0, .int 0, .int 0]))] [.ref h]) (va_Qv (fun a : Nat → Nat => a 8 = h) (MB D ca (va_A [(h, .inr (4, [.null, .null, .null, .null, .null, .null, .null, .null, .int 0, .int 0, .int 0, .int 0, .int 0, .int 0, .int 0]))] sz) (fun a => HW ca a Hnew)) (va_A [(h, .inr (4, [.null, .null, .null, .null, .null, .null, .null, .null, .int 0, .int 0, .int 0, .int 0, .int 0, .int 0, .int 0]))] sz)) 8 64 (va_A [(h, .inr (4, [.null, .null, .null, .null, .null, .null, .null, .null, .int 0, .int 0, .int 0, .int 0, .int 0, .int 0, .int 0]))] sz) := by
  refine Met.ofW (cc := cX3_init) (maxL := 2) (ret := none) (by decide) rfl ?_
  intro p e s m args below meth c s₁ B hml hv
  obtain ⟨rfl, hsz, hP, hK, hD0⟩ := hv
  have hx := B.exec
  have hb := B.bytes
  have hr := B.returns
  have hts := atoms_spec (ws := wsX3_init) B.pre
  have hown : s.vm.findClass RX3 = some m.cls := findClass_of_methodNamed B.named
  have hlocks := B.notSynchronized
  have hin3 : ∀ w ∈ wsX30, w ∈ wsX3_init := by decide +kernel
  subst hsz
  have hD := hD0.self (sz := s.heap.size)
  generalize hAe : va_A [(h, .inr (4, [.null, .null, .null, .null, .null, .null, .null, .null, .int 0, .int 0, .int 0, .int 0, .int 0, .int 0, .int 0]))] s.heap.size = A at hD ⊢
  have hA : ∀ q : Nat, s.heap.size ≤ q → A q := fun q h => by rw [← hAe]; exact Or.inr h
  have hS : va_S A s.heap s.heap [] := va_S.rf
  have hin : meth.name = "<init>" := (name_of_methodNamed B.named B.method).1
  have cut : ∀ (n k : Nat) (hnk : n + k = 8) (a : Nat → Nat) (ha : a 8 = h) (v : HS) (hf : Hnew = fX3_init_105 n k v) (H : Heap) (locs : List Loc) (hP : va_P D vwCl (HW ca a v) H) (hD : va_D A (HW ca a v)) (hS : va_S A s.heap H locs) (ls : Array Slot) (hl : lv_has ls 2 [(0, .ref (a 8)), (1, .int (nI k))]), W p l e (headSpec wsX3_init ({ frames := 1, cells := 8, slots := 64, locals := 12 })).room s m ([.ref h] : List Value).toArray below meth c H locs 8 64 (MQ below (va_Qv (fun a : Nat → Nat => a 8 = h) (MB D ca (A) (fun a => HW ca a Hnew)) (A)) ([.ref h] : List Value).toArray s 8 64 A) (F0 m 105 ls []) := by
    intro n
    induction n with
    | zero =>
      intro k hnk a ha v hf H locs hP hD hS ls hl
      obtain rfl : k = 8 := by omega
      refine lv_iload_n hx hb dX3_init_105 rfl (lv_at hl 1 rfl) ?_
      refine lv_bipush (v := 8) hx hb dX3_init_106 (by decide) ?_
      refine lv_icmp_ge (tgt := 131) hx hb dX3_init_108 (by decide) (fun _ => ?_) (fun q => absurd (by decide) q)
      exact W.vret hx hb hr (fun t ht hW => ⟨⟨a, rfl, ha, by rw [ht, hf]; exact hP, va_K.moved hW.alike hK, by rw [hf]; exact hD⟩, hS.F ht⟩) hS.2.2 dX3_init_131
    | succ n ih =>
      intro k hnk a ha v hf H locs hP hD hS ls hl
      refine lv_iload_n hx hb dX3_init_105 rfl (lv_at hl 1 rfl) ?_
      refine lv_bipush (v := 8) hx hb dX3_init_106 (by decide) ?_
      refine lv_icmp_ge (tgt := 131) hx hb dX3_init_108 (by decide) (fun q => absurd q (show ¬ (8 : Int32) ≤ nI k from nI_ge (b := 8) (by omega) (by decide))) (fun _ => ?_)
      refine lv_aload_n hx hb dX3_init_111 rfl (lv_at hl 0 rfl) ?_
      refine va_get (D := D) (ci := 4) (v := .ref (a 2)) (C := RX3) (T := TX3) (N := 15) hx hb hts hin3 hown hK hP 0 rfl rfl 2 (by decide) (hts (.fieldLink RX3 18 "HatReservations$Hall" "hatChairs" "[I") (by decide +kernel)) (fun _ h9 => h9) rfl dX3_init_112 ?_
      refine lv_iload_n hx hb dX3_init_115 rfl (lv_at hl 1 rfl) ?_
      refine lv_iconst (v := (-1)) hx hb dX3_init_116 (by decide) ?_
      refine iastN (f := h2 v) hx hb hK hP hD hS 3 0 rfl rfl (k := k) (by omega) (by decide) dX3_init_117 (fun H locs hP hD hS => ?_)
      have hP : va_P D vwCl (HW ca a (s2 (upd (h2 v) k (-1)) v)) H := hP
      have hD : va_D A (HW ca a (s2 (upd (h2 v) k (-1)) v)) := hD
      refine lv_aload_n hx hb dX3_init_118 rfl (lv_at hl 0 rfl) ?_
      refine va_get (D := D) (ci := 4) (v := .ref (a 5)) (C := RX3) (T := TX3) (N := 15) hx hb hts hin3 hown hK hP 0 rfl rfl 5 (by decide) (hts (.fieldLink RX3 28 "HatReservations$Hall" "coatChairs" "[I") (by decide +kernel)) (fun _ h9 => h9) rfl dX3_init_119 ?_
      refine lv_iload_n hx hb dX3_init_122 rfl (lv_at hl 1 rfl) ?_
      refine lv_iconst (v := (-1)) hx hb dX3_init_123 (by decide) ?_
      refine iastN (f := h5 v) hx hb hK hP hD hS 6 0 rfl rfl (k := k) (by omega) (by decide) dX3_init_124 (fun H locs hP hD hS => ?_)
      have hP : va_P D vwCl (HW ca a (s5 (upd (h5 v) k (-1)) (s2 (upd (h2 v) k (-1)) v))) H := hP
      have hD : va_D A (HW ca a (s5 (upd (h5 v) k (-1)) (s2 (upd (h2 v) k (-1)) v))) := hD
      refine lv_iinc (v := nI (k + 1)) (lv' := [(1, .int (nI (k + 1))), (0, .ref (a 8))]) hx hb dX3_init_125 hl (k := 1) rfl (nI_1 k) (by decide) rfl (fun ls hl => ?_)
      refine lv_goto (tgt := 105) hx hb dX3_init_128 (by decide) ?_
      exact ih (k + 1) (by omega) a ha _ hf _ _ hP hD hS ls (lv_sub hl [1, 0] rfl)
  refine W_entry (Nat.le_of_ble_eq_true rfl) (fun ls hl => ?_)
  have hl : lv_has ls 2 [(0, .ref h)] := hl
  refine lv_aload_n hx hb dX3_init_0 rfl (lv_at hl 0 rfl) ?_
  refine W.objInit hx hb hown (hts (.methodLink RX3 3 objectInit) (by decide +kernel)) (hts (.instanceMethod objectInit) (by decide +kernel)) (hts (.code objectInit ⟨#[0xb1]⟩ 1 none) (by decide +kernel)) rfl (by rw [hml]; exact hl.1) rfl dX3_init_1 (Nat.le_of_ble_eq_true rfl) (Nat.le_of_ble_eq_true rfl) ?_
  refine W.eq (g2 := F0 m 4 ls []) rfl ?_
  refine lv_aload_n hx hb dX3_init_4 rfl (lv_at hl 0 rfl) ?_
  refine lv_bipush (v := 8) hx hb dX3_init_5 (by decide) ?_
  refine newi 8 hx hb (hts (.arrayClass .int) (by decide +kernel)) hK hP hD hS hA (by decide) (by decide) (Nat.le_of_ble_eq_true rfl) (Nat.le_of_ble_eq_true rfl) (Nat.le_of_ble_eq_true rfl) dX3_init_7 (fun q0 H hP hD hS => ?_)
  have hP : va_P D vwCl [(h, .inr (4, [.null, .null, .null, .null, .null, .null, .null, .null, .int 0, .int 0, .int 0, .int 0, .int 0, .int 0, .int 0])), (q0, .inl (ca 0, 8, .inl (fun _ => 0)))] H := hP
  have hD : va_D A [(h, .inr (4, [.null, .null, .null, .null, .null, .null, .null, .null, .int 0, .int 0, .int 0, .int 0, .int 0, .int 0, .int 0])), (q0, .inl (ca 0, 8, .inl (fun _ => 0)))] := hD
  refine W.widen (k := 1) (n := 8) (Nat.le_of_ble_eq_true rfl) (Nat.le_of_ble_eq_true rfl) ?_
  refine va_putF (D := D) (ci := 4) (v := .ref q0) (ty := .array .int) (C := RX3) (T := TX3) (N := 15) hx hb hts hin3 tyX3 tyX3_ok nmX3 hown hK hP hD hS 0 rfl rfl 0 (by decide) (hts (.fieldLink RX3 9 "HatReservations$Hall" "feathers" "[I") (by decide +kernel)) (fun _ h9 => h9) rfl hin rfl (by decide +kernel) rfl rfl (Nat.le_of_ble_eq_true rfl) dX3_init_9 (fun H locs hP hD hS => ?_)
  have hP : va_P D vwCl [(h, .inr (4, [.ref q0, .null, .null, .null, .null, .null, .null, .null, .int 0, .int 0, .int 0, .int 0, .int 0, .int 0, .int 0])), (q0, .inl (ca 0, 8, .inl (fun _ => 0)))] H := hP
  have hD : va_D A [(h, .inr (4, [.ref q0, .null, .null, .null, .null, .null, .null, .null, .int 0, .int 0, .int 0, .int 0, .int 0, .int 0, .int 0])), (q0, .inl (ca 0, 8, .inl (fun _ => 0)))] := hD
  refine lv_aload_n hx hb dX3_init_12 rfl (lv_at hl 0 rfl) ?_
  refine lv_bipush (v := 8) hx hb dX3_init_13 (by decide) ?_
  refine newi 8 hx hb (hts (.arrayClass .int) (by decide +kernel)) hK hP hD hS hA (by decide) (by decide) (Nat.le_of_ble_eq_true rfl) (Nat.le_of_ble_eq_true rfl) (Nat.le_of_ble_eq_true rfl) dX3_init_15 (fun q1 H hP hD hS => ?_)
  have hP : va_P D vwCl [(h, .inr (4, [.ref q0, .null, .null, .null, .null, .null, .null, .null, .int 0, .int 0, .int 0, .int 0, .int 0, .int 0, .int 0])), (q0, .inl (ca 0, 8, .inl (fun _ => 0))), (q1, .inl (ca 0, 8, .inl (fun _ => 0)))] H := hP
  have hD : va_D A [(h, .inr (4, [.ref q0, .null, .null, .null, .null, .null, .null, .null, .int 0, .int 0, .int 0, .int 0, .int 0, .int 0, .int 0])), (q0, .inl (ca 0, 8, .inl (fun _ => 0))), (q1, .inl (ca 0, 8, .inl (fun _ => 0)))] := hD
  refine W.widen (k := 2) (n := 16) (Nat.le_of_ble_eq_true rfl) (Nat.le_of_ble_eq_true rfl) ?_
  refine va_putF (D := D) (ci := 4) (v := .ref q1) (ty := .array .int) (C := RX3) (T := TX3) (N := 15) hx hb hts hin3 tyX3 tyX3_ok nmX3 hown hK hP hD hS 0 rfl rfl 1 (by decide) (hts (.fieldLink RX3 15 "HatReservations$Hall" "brims" "[I") (by decide +kernel)) (fun _ h9 => h9) rfl hin rfl (by decide +kernel) rfl rfl (Nat.le_of_ble_eq_true rfl) dX3_init_17 (fun H locs hP hD hS => ?_)
  have hP : va_P D vwCl [(h, .inr (4, [.ref q0, .ref q1, .null, .null, .null, .null, .null, .null, .int 0, .int 0, .int 0, .int 0, .int 0, .int 0, .int 0])), (q0, .inl (ca 0, 8, .inl (fun _ => 0))), (q1, .inl (ca 0, 8, .inl (fun _ => 0)))] H := hP
  have hD : va_D A [(h, .inr (4, [.ref q0, .ref q1, .null, .null, .null, .null, .null, .null, .int 0, .int 0, .int 0, .int 0, .int 0, .int 0, .int 0])), (q0, .inl (ca 0, 8, .inl (fun _ => 0))), (q1, .inl (ca 0, 8, .inl (fun _ => 0)))] := hD
  refine lv_aload_n hx hb dX3_init_20 rfl (lv_at hl 0 rfl) ?_
  refine lv_bipush (v := 8) hx hb dX3_init_21 (by decide) ?_
  refine newi 8 hx hb (hts (.arrayClass .int) (by decide +kernel)) hK hP hD hS hA (by decide) (by decide) (Nat.le_of_ble_eq_true rfl) (Nat.le_of_ble_eq_true rfl) (Nat.le_of_ble_eq_true rfl) dX3_init_23 (fun q2 H hP hD hS => ?_)
  have hP : va_P D vwCl [(h, .inr (4, [.ref q0, .ref q1, .null, .null, .null, .null, .null, .null, .int 0, .int 0, .int 0, .int 0, .int 0, .int 0, .int 0])), (q0, .inl (ca 0, 8, .inl (fun _ => 0))), (q1, .inl (ca 0, 8, .inl (fun _ => 0))), (q2, .inl (ca 0, 8, .inl (fun _ => 0)))] H := hP
  have hD : va_D A [(h, .inr (4, [.ref q0, .ref q1, .null, .null, .null, .null, .null, .null, .int 0, .int 0, .int 0, .int 0, .int 0, .int 0, .int 0])), (q0, .inl (ca 0, 8, .inl (fun _ => 0))), (q1, .inl (ca 0, 8, .inl (fun _ => 0))), (q2, .inl (ca 0, 8, .inl (fun _ => 0)))] := hD
  refine W.widen (k := 3) (n := 24) (Nat.le_of_ble_eq_true rfl) (Nat.le_of_ble_eq_true rfl) ?_
  refine va_putF (D := D) (ci := 4) (v := .ref q2) (ty := .array .int) (C := RX3) (T := TX3) (N := 15) hx hb hts hin3 tyX3 tyX3_ok nmX3 hown hK hP hD hS 0 rfl rfl 2 (by decide) (hts (.fieldLink RX3 18 "HatReservations$Hall" "hatChairs" "[I") (by decide +kernel)) (fun _ h9 => h9) rfl hin rfl (by decide +kernel) rfl rfl (Nat.le_of_ble_eq_true rfl) dX3_init_25 (fun H locs hP hD hS => ?_)
  have hP : va_P D vwCl [(h, .inr (4, [.ref q0, .ref q1, .ref q2, .null, .null, .null, .null, .null, .int 0, .int 0, .int 0, .int 0, .int 0, .int 0, .int 0])), (q0, .inl (ca 0, 8, .inl (fun _ => 0))), (q1, .inl (ca 0, 8, .inl (fun _ => 0))), (q2, .inl (ca 0, 8, .inl (fun _ => 0)))] H := hP
  have hD : va_D A [(h, .inr (4, [.ref q0, .ref q1, .ref q2, .null, .null, .null, .null, .null, .int 0, .int 0, .int 0, .int 0, .int 0, .int 0, .int 0])), (q0, .inl (ca 0, 8, .inl (fun _ => 0))), (q1, .inl (ca 0, 8, .inl (fun _ => 0))), (q2, .inl (ca 0, 8, .inl (fun _ => 0)))] := hD
  refine lv_aload_n hx hb dX3_init_28 rfl (lv_at hl 0 rfl) ?_
  refine lv_bipush (v := 8) hx hb dX3_init_29 (by decide) ?_
  refine newi 8 hx hb (hts (.arrayClass .int) (by decide +kernel)) hK hP hD hS hA (by decide) (by decide) (Nat.le_of_ble_eq_true rfl) (Nat.le_of_ble_eq_true rfl) (Nat.le_of_ble_eq_true rfl) dX3_init_31 (fun q3 H hP hD hS => ?_)
  have hP : va_P D vwCl [(h, .inr (4, [.ref q0, .ref q1, .ref q2, .null, .null, .null, .null, .null, .int 0, .int 0, .int 0, .int 0, .int 0, .int 0, .int 0])), (q0, .inl (ca 0, 8, .inl (fun _ => 0))), (q1, .inl (ca 0, 8, .inl (fun _ => 0))), (q2, .inl (ca 0, 8, .inl (fun _ => 0))), (q3, .inl (ca 0, 8, .inl (fun _ => 0)))] H := hP
  have hD : va_D A [(h, .inr (4, [.ref q0, .ref q1, .ref q2, .null, .null, .null, .null, .null, .int 0, .int 0, .int 0, .int 0, .int 0, .int 0, .int 0])), (q0, .inl (ca 0, 8, .inl (fun _ => 0))), (q1, .inl (ca 0, 8, .inl (fun _ => 0))), (q2, .inl (ca 0, 8, .inl (fun _ => 0))), (q3, .inl (ca 0, 8, .inl (fun _ => 0)))] := hD
  refine W.widen (k := 4) (n := 32) (Nat.le_of_ble_eq_true rfl) (Nat.le_of_ble_eq_true rfl) ?_
  refine va_putF (D := D) (ci := 4) (v := .ref q3) (ty := .array .int) (C := RX3) (T := TX3) (N := 15) hx hb hts hin3 tyX3 tyX3_ok nmX3 hown hK hP hD hS 0 rfl rfl 3 (by decide) (hts (.fieldLink RX3 21 "HatReservations$Hall" "touchTimes" "[I") (by decide +kernel)) (fun _ h9 => h9) rfl hin rfl (by decide +kernel) rfl rfl (Nat.le_of_ble_eq_true rfl) dX3_init_33 (fun H locs hP hD hS => ?_)
  have hP : va_P D vwCl [(h, .inr (4, [.ref q0, .ref q1, .ref q2, .ref q3, .null, .null, .null, .null, .int 0, .int 0, .int 0, .int 0, .int 0, .int 0, .int 0])), (q0, .inl (ca 0, 8, .inl (fun _ => 0))), (q1, .inl (ca 0, 8, .inl (fun _ => 0))), (q2, .inl (ca 0, 8, .inl (fun _ => 0))), (q3, .inl (ca 0, 8, .inl (fun _ => 0)))] H := hP
  have hD : va_D A [(h, .inr (4, [.ref q0, .ref q1, .ref q2, .ref q3, .null, .null, .null, .null, .int 0, .int 0, .int 0, .int 0, .int 0, .int 0, .int 0])), (q0, .inl (ca 0, 8, .inl (fun _ => 0))), (q1, .inl (ca 0, 8, .inl (fun _ => 0))), (q2, .inl (ca 0, 8, .inl (fun _ => 0))), (q3, .inl (ca 0, 8, .inl (fun _ => 0)))] := hD
  refine lv_aload_n hx hb dX3_init_36 rfl (lv_at hl 0 rfl) ?_
  refine lv_bipush (v := 8) hx hb dX3_init_37 (by decide) ?_
  refine newl 8 hx hb (hts (.arrayClass .long) (by decide +kernel)) hK hP hD hS hA (by decide) (by decide) (Nat.le_of_ble_eq_true rfl) (Nat.le_of_ble_eq_true rfl) (Nat.le_of_ble_eq_true rfl) dX3_init_39 (fun q4 H hP hD hS => ?_)
  have hP : va_P D vwCl [(h, .inr (4, [.ref q0, .ref q1, .ref q2, .ref q3, .null, .null, .null, .null, .int 0, .int 0, .int 0, .int 0, .int 0, .int 0, .int 0])), (q0, .inl (ca 0, 8, .inl (fun _ => 0))), (q1, .inl (ca 0, 8, .inl (fun _ => 0))), (q2, .inl (ca 0, 8, .inl (fun _ => 0))), (q3, .inl (ca 0, 8, .inl (fun _ => 0))), (q4, .inl (ca 1, 8, .inr (.inl (fun _ => 0))))] H := hP
  have hD : va_D A [(h, .inr (4, [.ref q0, .ref q1, .ref q2, .ref q3, .null, .null, .null, .null, .int 0, .int 0, .int 0, .int 0, .int 0, .int 0, .int 0])), (q0, .inl (ca 0, 8, .inl (fun _ => 0))), (q1, .inl (ca 0, 8, .inl (fun _ => 0))), (q2, .inl (ca 0, 8, .inl (fun _ => 0))), (q3, .inl (ca 0, 8, .inl (fun _ => 0))), (q4, .inl (ca 1, 8, .inr (.inl (fun _ => 0))))] := hD
  refine W.widen (k := 5) (n := 40) (Nat.le_of_ble_eq_true rfl) (Nat.le_of_ble_eq_true rfl) ?_
  refine va_putF (D := D) (ci := 4) (v := .ref q4) (ty := .array .long) (C := RX3) (T := TX3) (N := 15) hx hb hts hin3 tyX3 tyX3_ok nmX3 hown hK hP hD hS 0 rfl rfl 4 (by decide) (hts (.fieldLink RX3 24 "HatReservations$Hall" "covers" "[J") (by decide +kernel)) (fun _ h9 => h9) rfl hin rfl (by decide +kernel) rfl rfl (Nat.le_of_ble_eq_true rfl) dX3_init_41 (fun H locs hP hD hS => ?_)
  have hP : va_P D vwCl [(h, .inr (4, [.ref q0, .ref q1, .ref q2, .ref q3, .ref q4, .null, .null, .null, .int 0, .int 0, .int 0, .int 0, .int 0, .int 0, .int 0])), (q0, .inl (ca 0, 8, .inl (fun _ => 0))), (q1, .inl (ca 0, 8, .inl (fun _ => 0))), (q2, .inl (ca 0, 8, .inl (fun _ => 0))), (q3, .inl (ca 0, 8, .inl (fun _ => 0))), (q4, .inl (ca 1, 8, .inr (.inl (fun _ => 0))))] H := hP
  have hD : va_D A [(h, .inr (4, [.ref q0, .ref q1, .ref q2, .ref q3, .ref q4, .null, .null, .null, .int 0, .int 0, .int 0, .int 0, .int 0, .int 0, .int 0])), (q0, .inl (ca 0, 8, .inl (fun _ => 0))), (q1, .inl (ca 0, 8, .inl (fun _ => 0))), (q2, .inl (ca 0, 8, .inl (fun _ => 0))), (q3, .inl (ca 0, 8, .inl (fun _ => 0))), (q4, .inl (ca 1, 8, .inr (.inl (fun _ => 0))))] := hD
  refine lv_aload_n hx hb dX3_init_44 rfl (lv_at hl 0 rfl) ?_
  refine lv_bipush (v := 8) hx hb dX3_init_45 (by decide) ?_
  refine newi 8 hx hb (hts (.arrayClass .int) (by decide +kernel)) hK hP hD hS hA (by decide) (by decide) (Nat.le_of_ble_eq_true rfl) (Nat.le_of_ble_eq_true rfl) (Nat.le_of_ble_eq_true rfl) dX3_init_47 (fun q5 H hP hD hS => ?_)
  have hP : va_P D vwCl [(h, .inr (4, [.ref q0, .ref q1, .ref q2, .ref q3, .ref q4, .null, .null, .null, .int 0, .int 0, .int 0, .int 0, .int 0, .int 0, .int 0])), (q0, .inl (ca 0, 8, .inl (fun _ => 0))), (q1, .inl (ca 0, 8, .inl (fun _ => 0))), (q2, .inl (ca 0, 8, .inl (fun _ => 0))), (q3, .inl (ca 0, 8, .inl (fun _ => 0))), (q4, .inl (ca 1, 8, .inr (.inl (fun _ => 0)))), (q5, .inl (ca 0, 8, .inl (fun _ => 0)))] H := hP
  have hD : va_D A [(h, .inr (4, [.ref q0, .ref q1, .ref q2, .ref q3, .ref q4, .null, .null, .null, .int 0, .int 0, .int 0, .int 0, .int 0, .int 0, .int 0])), (q0, .inl (ca 0, 8, .inl (fun _ => 0))), (q1, .inl (ca 0, 8, .inl (fun _ => 0))), (q2, .inl (ca 0, 8, .inl (fun _ => 0))), (q3, .inl (ca 0, 8, .inl (fun _ => 0))), (q4, .inl (ca 1, 8, .inr (.inl (fun _ => 0)))), (q5, .inl (ca 0, 8, .inl (fun _ => 0)))] := hD
  refine W.widen (k := 6) (n := 48) (Nat.le_of_ble_eq_true rfl) (Nat.le_of_ble_eq_true rfl) ?_
  refine va_putF (D := D) (ci := 4) (v := .ref q5) (ty := .array .int) (C := RX3) (T := TX3) (N := 15) hx hb hts hin3 tyX3 tyX3_ok nmX3 hown hK hP hD hS 0 rfl rfl 5 (by decide) (hts (.fieldLink RX3 28 "HatReservations$Hall" "coatChairs" "[I") (by decide +kernel)) (fun _ h9 => h9) rfl hin rfl (by decide +kernel) rfl rfl (Nat.le_of_ble_eq_true rfl) dX3_init_49 (fun H locs hP hD hS => ?_)
  have hP : va_P D vwCl [(h, .inr (4, [.ref q0, .ref q1, .ref q2, .ref q3, .ref q4, .ref q5, .null, .null, .int 0, .int 0, .int 0, .int 0, .int 0, .int 0, .int 0])), (q0, .inl (ca 0, 8, .inl (fun _ => 0))), (q1, .inl (ca 0, 8, .inl (fun _ => 0))), (q2, .inl (ca 0, 8, .inl (fun _ => 0))), (q3, .inl (ca 0, 8, .inl (fun _ => 0))), (q4, .inl (ca 1, 8, .inr (.inl (fun _ => 0)))), (q5, .inl (ca 0, 8, .inl (fun _ => 0)))] H := hP
  have hD : va_D A [(h, .inr (4, [.ref q0, .ref q1, .ref q2, .ref q3, .ref q4, .ref q5, .null, .null, .int 0, .int 0, .int 0, .int 0, .int 0, .int 0, .int 0])), (q0, .inl (ca 0, 8, .inl (fun _ => 0))), (q1, .inl (ca 0, 8, .inl (fun _ => 0))), (q2, .inl (ca 0, 8, .inl (fun _ => 0))), (q3, .inl (ca 0, 8, .inl (fun _ => 0))), (q4, .inl (ca 1, 8, .inr (.inl (fun _ => 0)))), (q5, .inl (ca 0, 8, .inl (fun _ => 0)))] := hD
  refine lv_aload_n hx hb dX3_init_52 rfl (lv_at hl 0 rfl) ?_
  refine lv_bipush (v := 8) hx hb dX3_init_53 (by decide) ?_
  refine newi 8 hx hb (hts (.arrayClass .int) (by decide +kernel)) hK hP hD hS hA (by decide) (by decide) (Nat.le_of_ble_eq_true rfl) (Nat.le_of_ble_eq_true rfl) (Nat.le_of_ble_eq_true rfl) dX3_init_55 (fun q6 H hP hD hS => ?_)
  have hP : va_P D vwCl [(h, .inr (4, [.ref q0, .ref q1, .ref q2, .ref q3, .ref q4, .ref q5, .null, .null, .int 0, .int 0, .int 0, .int 0, .int 0, .int 0, .int 0])), (q0, .inl (ca 0, 8, .inl (fun _ => 0))), (q1, .inl (ca 0, 8, .inl (fun _ => 0))), (q2, .inl (ca 0, 8, .inl (fun _ => 0))), (q3, .inl (ca 0, 8, .inl (fun _ => 0))), (q4, .inl (ca 1, 8, .inr (.inl (fun _ => 0)))), (q5, .inl (ca 0, 8, .inl (fun _ => 0))), (q6, .inl (ca 0, 8, .inl (fun _ => 0)))] H := hP
  have hD : va_D A [(h, .inr (4, [.ref q0, .ref q1, .ref q2, .ref q3, .ref q4, .ref q5, .null, .null, .int 0, .int 0, .int 0, .int 0, .int 0, .int 0, .int 0])), (q0, .inl (ca 0, 8, .inl (fun _ => 0))), (q1, .inl (ca 0, 8, .inl (fun _ => 0))), (q2, .inl (ca 0, 8, .inl (fun _ => 0))), (q3, .inl (ca 0, 8, .inl (fun _ => 0))), (q4, .inl (ca 1, 8, .inr (.inl (fun _ => 0)))), (q5, .inl (ca 0, 8, .inl (fun _ => 0))), (q6, .inl (ca 0, 8, .inl (fun _ => 0)))] := hD
  refine W.widen (k := 7) (n := 56) (Nat.le_of_ble_eq_true rfl) (Nat.le_of_ble_eq_true rfl) ?_
  refine va_putF (D := D) (ci := 4) (v := .ref q6) (ty := .array .int) (C := RX3) (T := TX3) (N := 15) hx hb hts hin3 tyX3 tyX3_ok nmX3 hown hK hP hD hS 0 rfl rfl 6 (by decide) (hts (.fieldLink RX3 31 "HatReservations$Hall" "coatPositions" "[I") (by decide +kernel)) (fun _ h9 => h9) rfl hin rfl (by decide +kernel) rfl rfl (Nat.le_of_ble_eq_true rfl) dX3_init_57 (fun H locs hP hD hS => ?_)
  have hP : va_P D vwCl [(h, .inr (4, [.ref q0, .ref q1, .ref q2, .ref q3, .ref q4, .ref q5, .ref q6, .null, .int 0, .int 0, .int 0, .int 0, .int 0, .int 0, .int 0])), (q0, .inl (ca 0, 8, .inl (fun _ => 0))), (q1, .inl (ca 0, 8, .inl (fun _ => 0))), (q2, .inl (ca 0, 8, .inl (fun _ => 0))), (q3, .inl (ca 0, 8, .inl (fun _ => 0))), (q4, .inl (ca 1, 8, .inr (.inl (fun _ => 0)))), (q5, .inl (ca 0, 8, .inl (fun _ => 0))), (q6, .inl (ca 0, 8, .inl (fun _ => 0)))] H := hP
  have hD : va_D A [(h, .inr (4, [.ref q0, .ref q1, .ref q2, .ref q3, .ref q4, .ref q5, .ref q6, .null, .int 0, .int 0, .int 0, .int 0, .int 0, .int 0, .int 0])), (q0, .inl (ca 0, 8, .inl (fun _ => 0))), (q1, .inl (ca 0, 8, .inl (fun _ => 0))), (q2, .inl (ca 0, 8, .inl (fun _ => 0))), (q3, .inl (ca 0, 8, .inl (fun _ => 0))), (q4, .inl (ca 1, 8, .inr (.inl (fun _ => 0)))), (q5, .inl (ca 0, 8, .inl (fun _ => 0))), (q6, .inl (ca 0, 8, .inl (fun _ => 0)))] := hD
  refine lv_aload_n hx hb dX3_init_60 rfl (lv_at hl 0 rfl) ?_
  refine lv_bipush (v := 8) hx hb dX3_init_61 (by decide) ?_
  refine newi 8 hx hb (hts (.arrayClass .int) (by decide +kernel)) hK hP hD hS hA (by decide) (by decide) (Nat.le_of_ble_eq_true rfl) (Nat.le_of_ble_eq_true rfl) (Nat.le_of_ble_eq_true rfl) dX3_init_63 (fun q7 H hP hD hS => ?_)
  have hP : va_P D vwCl [(h, .inr (4, [.ref q0, .ref q1, .ref q2, .ref q3, .ref q4, .ref q5, .ref q6, .null, .int 0, .int 0, .int 0, .int 0, .int 0, .int 0, .int 0])), (q0, .inl (ca 0, 8, .inl (fun _ => 0))), (q1, .inl (ca 0, 8, .inl (fun _ => 0))), (q2, .inl (ca 0, 8, .inl (fun _ => 0))), (q3, .inl (ca 0, 8, .inl (fun _ => 0))), (q4, .inl (ca 1, 8, .inr (.inl (fun _ => 0)))), (q5, .inl (ca 0, 8, .inl (fun _ => 0))), (q6, .inl (ca 0, 8, .inl (fun _ => 0))), (q7, .inl (ca 0, 8, .inl (fun _ => 0)))] H := hP
  have hD : va_D A [(h, .inr (4, [.ref q0, .ref q1, .ref q2, .ref q3, .ref q4, .ref q5, .ref q6, .null, .int 0, .int 0, .int 0, .int 0, .int 0, .int 0, .int 0])), (q0, .inl (ca 0, 8, .inl (fun _ => 0))), (q1, .inl (ca 0, 8, .inl (fun _ => 0))), (q2, .inl (ca 0, 8, .inl (fun _ => 0))), (q3, .inl (ca 0, 8, .inl (fun _ => 0))), (q4, .inl (ca 1, 8, .inr (.inl (fun _ => 0)))), (q5, .inl (ca 0, 8, .inl (fun _ => 0))), (q6, .inl (ca 0, 8, .inl (fun _ => 0))), (q7, .inl (ca 0, 8, .inl (fun _ => 0)))] := hD
  refine W.widen (k := 8) (n := 64) (Nat.le_of_ble_eq_true rfl) (Nat.le_of_ble_eq_true rfl) ?_
  refine va_putF (D := D) (ci := 4) (v := .ref q7) (ty := .array .int) (C := RX3) (T := TX3) (N := 15) hx hb hts hin3 tyX3 tyX3_ok nmX3 hown hK hP hD hS 0 rfl rfl 7 (by decide) (hts (.fieldLink RX3 34 "HatReservations$Hall" "coatOrders" "[I") (by decide +kernel)) (fun _ h9 => h9) rfl hin rfl (by decide +kernel) rfl rfl (Nat.le_of_ble_eq_true rfl) dX3_init_65 (fun H locs hP hD hS => ?_)
  have hP : va_P D vwCl [(h, .inr (4, [.ref q0, .ref q1, .ref q2, .ref q3, .ref q4, .ref q5, .ref q6, .ref q7, .int 0, .int 0, .int 0, .int 0, .int 0, .int 0, .int 0])), (q0, .inl (ca 0, 8, .inl (fun _ => 0))), (q1, .inl (ca 0, 8, .inl (fun _ => 0))), (q2, .inl (ca 0, 8, .inl (fun _ => 0))), (q3, .inl (ca 0, 8, .inl (fun _ => 0))), (q4, .inl (ca 1, 8, .inr (.inl (fun _ => 0)))), (q5, .inl (ca 0, 8, .inl (fun _ => 0))), (q6, .inl (ca 0, 8, .inl (fun _ => 0))), (q7, .inl (ca 0, 8, .inl (fun _ => 0)))] H := hP
  have hD : va_D A [(h, .inr (4, [.ref q0, .ref q1, .ref q2, .ref q3, .ref q4, .ref q5, .ref q6, .ref q7, .int 0, .int 0, .int 0, .int 0, .int 0, .int 0, .int 0])), (q0, .inl (ca 0, 8, .inl (fun _ => 0))), (q1, .inl (ca 0, 8, .inl (fun _ => 0))), (q2, .inl (ca 0, 8, .inl (fun _ => 0))), (q3, .inl (ca 0, 8, .inl (fun _ => 0))), (q4, .inl (ca 1, 8, .inr (.inl (fun _ => 0)))), (q5, .inl (ca 0, 8, .inl (fun _ => 0))), (q6, .inl (ca 0, 8, .inl (fun _ => 0))), (q7, .inl (ca 0, 8, .inl (fun _ => 0)))] := hD
  refine lv_aload_n hx hb dX3_init_68 rfl (lv_at hl 0 rfl) ?_
  refine lv_iconst (v := 0) hx hb dX3_init_69 (by decide) ?_
  refine va_put (D := D) (ci := 4) (v := .int 0) (ty := .int) (C := RX3) (T := TX3) (N := 15) hx hb hts hin3 tyX3 tyX3_ok nmX3 hown hK hP hD hS 0 rfl rfl 8 (by decide) (hts (.fieldLink RX3 37 "HatReservations$Hall" "coatsEverLeft" "I") (by decide +kernel)) (fun _ h9 => h9) rfl (by decide +kernel) rfl rfl (Nat.le_of_ble_eq_true rfl) dX3_init_70 (fun H locs hP hD hS => ?_)
  have hP : va_P D vwCl [(h, .inr (4, [.ref q0, .ref q1, .ref q2, .ref q3, .ref q4, .ref q5, .ref q6, .ref q7, .int 0, .int 0, .int 0, .int 0, .int 0, .int 0, .int 0])), (q0, .inl (ca 0, 8, .inl (fun _ => 0))), (q1, .inl (ca 0, 8, .inl (fun _ => 0))), (q2, .inl (ca 0, 8, .inl (fun _ => 0))), (q3, .inl (ca 0, 8, .inl (fun _ => 0))), (q4, .inl (ca 1, 8, .inr (.inl (fun _ => 0)))), (q5, .inl (ca 0, 8, .inl (fun _ => 0))), (q6, .inl (ca 0, 8, .inl (fun _ => 0))), (q7, .inl (ca 0, 8, .inl (fun _ => 0)))] H := hP
  have hD : va_D A [(h, .inr (4, [.ref q0, .ref q1, .ref q2, .ref q3, .ref q4, .ref q5, .ref q6, .ref q7, .int 0, .int 0, .int 0, .int 0, .int 0, .int 0, .int 0])), (q0, .inl (ca 0, 8, .inl (fun _ => 0))), (q1, .inl (ca 0, 8, .inl (fun _ => 0))), (q2, .inl (ca 0, 8, .inl (fun _ => 0))), (q3, .inl (ca 0, 8, .inl (fun _ => 0))), (q4, .inl (ca 1, 8, .inr (.inl (fun _ => 0)))), (q5, .inl (ca 0, 8, .inl (fun _ => 0))), (q6, .inl (ca 0, 8, .inl (fun _ => 0))), (q7, .inl (ca 0, 8, .inl (fun _ => 0)))] := hD
  refine lv_aload_n hx hb dX3_init_73 rfl (lv_at hl 0 rfl) ?_
  refine lv_iconst (v := 0) hx hb dX3_init_74 (by decide) ?_
  refine va_put (D := D) (ci := 4) (v := .int 0) (ty := .int) (C := RX3) (T := TX3) (N := 15) hx hb hts hin3 tyX3 tyX3_ok nmX3 hown hK hP hD hS 0 rfl rfl 9 (by decide) (hts (.fieldLink RX3 41 "HatReservations$Hall" "guests" "I") (by decide +kernel)) (fun _ h9 => h9) rfl (by decide +kernel) rfl rfl (Nat.le_of_ble_eq_true rfl) dX3_init_75 (fun H locs hP hD hS => ?_)
  have hP : va_P D vwCl [(h, .inr (4, [.ref q0, .ref q1, .ref q2, .ref q3, .ref q4, .ref q5, .ref q6, .ref q7, .int 0, .int 0, .int 0, .int 0, .int 0, .int 0, .int 0])), (q0, .inl (ca 0, 8, .inl (fun _ => 0))), (q1, .inl (ca 0, 8, .inl (fun _ => 0))), (q2, .inl (ca 0, 8, .inl (fun _ => 0))), (q3, .inl (ca 0, 8, .inl (fun _ => 0))), (q4, .inl (ca 1, 8, .inr (.inl (fun _ => 0)))), (q5, .inl (ca 0, 8, .inl (fun _ => 0))), (q6, .inl (ca 0, 8, .inl (fun _ => 0))), (q7, .inl (ca 0, 8, .inl (fun _ => 0)))] H := hP
  have hD : va_D A [(h, .inr (4, [.ref q0, .ref q1, .ref q2, .ref q3, .ref q4, .ref q5, .ref q6, .ref q7, .int 0, .int 0, .int 0, .int 0, .int 0, .int 0, .int 0])), (q0, .inl (ca 0, 8, .inl (fun _ => 0))), (q1, .inl (ca 0, 8, .inl (fun _ => 0))), (q2, .inl (ca 0, 8, .inl (fun _ => 0))), (q3, .inl (ca 0, 8, .inl (fun _ => 0))), (q4, .inl (ca 1, 8, .inr (.inl (fun _ => 0)))), (q5, .inl (ca 0, 8, .inl (fun _ => 0))), (q6, .inl (ca 0, 8, .inl (fun _ => 0))), (q7, .inl (ca 0, 8, .inl (fun _ => 0)))] := hD
  refine lv_aload_n hx hb dX3_init_78 rfl (lv_at hl 0 rfl) ?_
  refine lv_iconst (v := 0) hx hb dX3_init_79 (by decide) ?_
  refine va_put (D := D) (ci := 4) (v := .int 0) (ty := .int) (C := RX3) (T := TX3) (N := 15) hx hb hts hin3 tyX3 tyX3_ok nmX3 hown hK hP hD hS 0 rfl rfl 10 (by decide) (hts (.fieldLink RX3 44 "HatReservations$Hall" "time" "I") (by decide +kernel)) (fun _ h9 => h9) rfl (by decide +kernel) rfl rfl (Nat.le_of_ble_eq_true rfl) dX3_init_80 (fun H locs hP hD hS => ?_)
  have hP : va_P D vwCl [(h, .inr (4, [.ref q0, .ref q1, .ref q2, .ref q3, .ref q4, .ref q5, .ref q6, .ref q7, .int 0, .int 0, .int 0, .int 0, .int 0, .int 0, .int 0])), (q0, .inl (ca 0, 8, .inl (fun _ => 0))), (q1, .inl (ca 0, 8, .inl (fun _ => 0))), (q2, .inl (ca 0, 8, .inl (fun _ => 0))), (q3, .inl (ca 0, 8, .inl (fun _ => 0))), (q4, .inl (ca 1, 8, .inr (.inl (fun _ => 0)))), (q5, .inl (ca 0, 8, .inl (fun _ => 0))), (q6, .inl (ca 0, 8, .inl (fun _ => 0))), (q7, .inl (ca 0, 8, .inl (fun _ => 0)))] H := hP
  have hD : va_D A [(h, .inr (4, [.ref q0, .ref q1, .ref q2, .ref q3, .ref q4, .ref q5, .ref q6, .ref q7, .int 0, .int 0, .int 0, .int 0, .int 0, .int 0, .int 0])), (q0, .inl (ca 0, 8, .inl (fun _ => 0))), (q1, .inl (ca 0, 8, .inl (fun _ => 0))), (q2, .inl (ca 0, 8, .inl (fun _ => 0))), (q3, .inl (ca 0, 8, .inl (fun _ => 0))), (q4, .inl (ca 1, 8, .inr (.inl (fun _ => 0)))), (q5, .inl (ca 0, 8, .inl (fun _ => 0))), (q6, .inl (ca 0, 8, .inl (fun _ => 0))), (q7, .inl (ca 0, 8, .inl (fun _ => 0)))] := hD
  refine lv_aload_n hx hb dX3_init_83 rfl (lv_at hl 0 rfl) ?_
  refine lv_iconst (v := 0) hx hb dX3_init_84 (by decide) ?_
  refine va_put (D := D) (ci := 4) (v := .int 0) (ty := .int) (C := RX3) (T := TX3) (N := 15) hx hb hts hin3 tyX3 tyX3_ok nmX3 hown hK hP hD hS 0 rfl rfl 11 (by decide) (hts (.fieldLink RX3 47 "HatReservations$Hall" "swept" "I") (by decide +kernel)) (fun _ h9 => h9) rfl (by decide +kernel) rfl rfl (Nat.le_of_ble_eq_true rfl) dX3_init_85 (fun H locs hP hD hS => ?_)
  have hP : va_P D vwCl [(h, .inr (4, [.ref q0, .ref q1, .ref q2, .ref q3, .ref q4, .ref q5, .ref q6, .ref q7, .int 0, .int 0, .int 0, .int 0, .int 0, .int 0, .int 0])), (q0, .inl (ca 0, 8, .inl (fun _ => 0))), (q1, .inl (ca 0, 8, .inl (fun _ => 0))), (q2, .inl (ca 0, 8, .inl (fun _ => 0))), (q3, .inl (ca 0, 8, .inl (fun _ => 0))), (q4, .inl (ca 1, 8, .inr (.inl (fun _ => 0)))), (q5, .inl (ca 0, 8, .inl (fun _ => 0))), (q6, .inl (ca 0, 8, .inl (fun _ => 0))), (q7, .inl (ca 0, 8, .inl (fun _ => 0)))] H := hP
  have hD : va_D A [(h, .inr (4, [.ref q0, .ref q1, .ref q2, .ref q3, .ref q4, .ref q5, .ref q6, .ref q7, .int 0, .int 0, .int 0, .int 0, .int 0, .int 0, .int 0])), (q0, .inl (ca 0, 8, .inl (fun _ => 0))), (q1, .inl (ca 0, 8, .inl (fun _ => 0))), (q2, .inl (ca 0, 8, .inl (fun _ => 0))), (q3, .inl (ca 0, 8, .inl (fun _ => 0))), (q4, .inl (ca 1, 8, .inr (.inl (fun _ => 0)))), (q5, .inl (ca 0, 8, .inl (fun _ => 0))), (q6, .inl (ca 0, 8, .inl (fun _ => 0))), (q7, .inl (ca 0, 8, .inl (fun _ => 0)))] := hD
  refine lv_aload_n hx hb dX3_init_88 rfl (lv_at hl 0 rfl) ?_
  refine lv_iconst (v := 0) hx hb dX3_init_89 (by decide) ?_
  refine va_put (D := D) (ci := 4) (v := .int 0) (ty := .int) (C := RX3) (T := TX3) (N := 15) hx hb hts hin3 tyX3 tyX3_ok nmX3 hown hK hP hD hS 0 rfl rfl 12 (by decide) (hts (.fieldLink RX3 50 "HatReservations$Hall" "lapsed" "I") (by decide +kernel)) (fun _ h9 => h9) rfl (by decide +kernel) rfl rfl (Nat.le_of_ble_eq_true rfl) dX3_init_90 (fun H locs hP hD hS => ?_)
  have hP : va_P D vwCl [(h, .inr (4, [.ref q0, .ref q1, .ref q2, .ref q3, .ref q4, .ref q5, .ref q6, .ref q7, .int 0, .int 0, .int 0, .int 0, .int 0, .int 0, .int 0])), (q0, .inl (ca 0, 8, .inl (fun _ => 0))), (q1, .inl (ca 0, 8, .inl (fun _ => 0))), (q2, .inl (ca 0, 8, .inl (fun _ => 0))), (q3, .inl (ca 0, 8, .inl (fun _ => 0))), (q4, .inl (ca 1, 8, .inr (.inl (fun _ => 0)))), (q5, .inl (ca 0, 8, .inl (fun _ => 0))), (q6, .inl (ca 0, 8, .inl (fun _ => 0))), (q7, .inl (ca 0, 8, .inl (fun _ => 0)))] H := hP
  have hD : va_D A [(h, .inr (4, [.ref q0, .ref q1, .ref q2, .ref q3, .ref q4, .ref q5, .ref q6, .ref q7, .int 0, .int 0, .int 0, .int 0, .int 0, .int 0, .int 0])), (q0, .inl (ca 0, 8, .inl (fun _ => 0))), (q1, .inl (ca 0, 8, .inl (fun _ => 0))), (q2, .inl (ca 0, 8, .inl (fun _ => 0))), (q3, .inl (ca 0, 8, .inl (fun _ => 0))), (q4, .inl (ca 1, 8, .inr (.inl (fun _ => 0)))), (q5, .inl (ca 0, 8, .inl (fun _ => 0))), (q6, .inl (ca 0, 8, .inl (fun _ => 0))), (q7, .inl (ca 0, 8, .inl (fun _ => 0)))] := hD
  refine lv_aload_n hx hb dX3_init_93 rfl (lv_at hl 0 rfl) ?_
  refine lv_iconst (v := 0) hx hb dX3_init_94 (by decide) ?_
  refine va_put (D := D) (ci := 4) (v := .int 0) (ty := .int) (C := RX3) (T := TX3) (N := 15) hx hb hts hin3 tyX3 tyX3_ok nmX3 hown hK hP hD hS 0 rfl rfl 13 (by decide) (hts (.fieldLink RX3 53 "HatReservations$Hall" "taken" "I") (by decide +kernel)) (fun _ h9 => h9) rfl (by decide +kernel) rfl rfl (Nat.le_of_ble_eq_true rfl) dX3_init_95 (fun H locs hP hD hS => ?_)
  have hP : va_P D vwCl [(h, .inr (4, [.ref q0, .ref q1, .ref q2, .ref q3, .ref q4, .ref q5, .ref q6, .ref q7, .int 0, .int 0, .int 0, .int 0, .int 0, .int 0, .int 0])), (q0, .inl (ca 0, 8, .inl (fun _ => 0))), (q1, .inl (ca 0, 8, .inl (fun _ => 0))), (q2, .inl (ca 0, 8, .inl (fun _ => 0))), (q3, .inl (ca 0, 8, .inl (fun _ => 0))), (q4, .inl (ca 1, 8, .inr (.inl (fun _ => 0)))), (q5, .inl (ca 0, 8, .inl (fun _ => 0))), (q6, .inl (ca 0, 8, .inl (fun _ => 0))), (q7, .inl (ca 0, 8, .inl (fun _ => 0)))] H := hP
  have hD : va_D A [(h, .inr (4, [.ref q0, .ref q1, .ref q2, .ref q3, .ref q4, .ref q5, .ref q6, .ref q7, .int 0, .int 0, .int 0, .int 0, .int 0, .int 0, .int 0])), (q0, .inl (ca 0, 8, .inl (fun _ => 0))), (q1, .inl (ca 0, 8, .inl (fun _ => 0))), (q2, .inl (ca 0, 8, .inl (fun _ => 0))), (q3, .inl (ca 0, 8, .inl (fun _ => 0))), (q4, .inl (ca 1, 8, .inr (.inl (fun _ => 0)))), (q5, .inl (ca 0, 8, .inl (fun _ => 0))), (q6, .inl (ca 0, 8, .inl (fun _ => 0))), (q7, .inl (ca 0, 8, .inl (fun _ => 0)))] := hD
  refine lv_aload_n hx hb dX3_init_98 rfl (lv_at hl 0 rfl) ?_
  refine lv_iconst (v := 0) hx hb dX3_init_99 (by decide) ?_
  refine va_put (D := D) (ci := 4) (v := .int 0) (ty := .int) (C := RX3) (T := TX3) (N := 15) hx hb hts hin3 tyX3 tyX3_ok nmX3 hown hK hP hD hS 0 rfl rfl 14 (by decide) (hts (.fieldLink RX3 56 "HatReservations$Hall" "won" "I") (by decide +kernel)) (fun _ h9 => h9) rfl (by decide +kernel) rfl rfl (Nat.le_of_ble_eq_true rfl) dX3_init_100 (fun H locs hP hD hS => ?_)
  have hP : va_P D vwCl [(h, .inr (4, [.ref q0, .ref q1, .ref q2, .ref q3, .ref q4, .ref q5, .ref q6, .ref q7, .int 0, .int 0, .int 0, .int 0, .int 0, .int 0, .int 0])), (q0, .inl (ca 0, 8, .inl (fun _ => 0))), (q1, .inl (ca 0, 8, .inl (fun _ => 0))), (q2, .inl (ca 0, 8, .inl (fun _ => 0))), (q3, .inl (ca 0, 8, .inl (fun _ => 0))), (q4, .inl (ca 1, 8, .inr (.inl (fun _ => 0)))), (q5, .inl (ca 0, 8, .inl (fun _ => 0))), (q6, .inl (ca 0, 8, .inl (fun _ => 0))), (q7, .inl (ca 0, 8, .inl (fun _ => 0)))] H := hP
  have hD : va_D A [(h, .inr (4, [.ref q0, .ref q1, .ref q2, .ref q3, .ref q4, .ref q5, .ref q6, .ref q7, .int 0, .int 0, .int 0, .int 0, .int 0, .int 0, .int 0])), (q0, .inl (ca 0, 8, .inl (fun _ => 0))), (q1, .inl (ca 0, 8, .inl (fun _ => 0))), (q2, .inl (ca 0, 8, .inl (fun _ => 0))), (q3, .inl (ca 0, 8, .inl (fun _ => 0))), (q4, .inl (ca 1, 8, .inr (.inl (fun _ => 0)))), (q5, .inl (ca 0, 8, .inl (fun _ => 0))), (q6, .inl (ca 0, 8, .inl (fun _ => 0))), (q7, .inl (ca 0, 8, .inl (fun _ => 0)))] := hD
  refine lv_iconst (v := 0) hx hb dX3_init_103 (by decide) ?_
  refine lv_istore_n (lv' := [(1, .int 0), (0, .ref h)]) hx hb dX3_init_104 rfl hl (by decide) rfl (fun ls hl => ?_)
  exact cut 8 0 (by omega) (fun k => match k with | 0 => q0 | 1 => q1 | 2 => q2 | 3 => q3 | 4 => q4 | 5 => q5 | 6 => q6 | 7 => q7 | _ => h) rfl Hz rfl _ _ hP hD hS ls (lv_sub hl [1, 0] rfl)
