/-! the object's methods, on -/
def fX5_idlestGuest (u : OS) : Nat × Int32 × OS :=
  (if (fX3_idlest (og0 u)) = (-1) then (1, 0, u) else (0, fX3_idlest (og0 u), u))
set_option maxHeartbeats 4000000 in
set_option maxRecDepth 100000 in
/-- idlestGuest -/
theorem kX5_idlestGuest (l : Launch) (hfl : l.stackTraces = false) (D : va_G) (ca : Nat → ClassId) (en ks vs : Nat → Nat) (ai : Nat → Nat → Nat) (ad bd : Nat → Nat) (sz : Nat) (u : OS) (hoi : OI u) : HMet l yX5_idlestGuest wsX5_idlestGuest ({ frames := 6, cells := 2, slots := 12, locals := 82 }) D ca en ks vs ai ad bd sz u [.ref (ad 0)] ["java/util/NoSuchElementException"] (fX5_idlestGuest u) := by
  unfold HMet
  refine vx_ofW (cc := cX5_idlestGuest) (maxL := 2) (ret := (some .int)) (by decide) rfl ?_
  intro p e s m args below meth c s₁ B hml hxt hv
  obtain ⟨rfl, hsz, hP, hK, hD0, hX⟩ := hv
  have hx := B.exec
  have hb := B.bytes
  have hr := B.returns
  have hts := atoms_spec (ws := wsX5_idlestGuest) B.pre
  have hown : s.vm.findClass RX5 = some m.cls := findClass_of_methodNamed B.named
  have hlocks := B.notSynchronized
  have hin5 : ∀ w ∈ wsX50, w ∈ wsX5_idlestGuest := by decide +kernel
  have hin3 : ∀ w ∈ wsX30, w ∈ wsX5_idlestGuest := by decide +kernel
  have hin := hin5
  subst hsz
  have hD := hD0.self (sz := s.heap.size)
  generalize hAe : va_A (OW ca en ai ad bd u) s.heap.size = A at hD hX ⊢
  have hA : ∀ q : Nat, s.heap.size ≤ q → A q := fun q h => by rw [← hAe]; exact Or.inr h
  have hS : va_S A s.heap s.heap [] := va_S.rf
  have hf : fX5_idlestGuest u = fX5_idlestGuest u := rfl
  refine W_entry (Nat.le_of_ble_eq_true rfl) (fun ls hl => ?_)
  have hl : lv_has ls 2 [(0, .ref (ad 0))] := hl
  refine lv_aload_n hx hb dX5_idlestGuest_0 rfl (lv_at hl 0 rfl) ?_
  refine va_get (D := D) (ci := 6) (v := .ref (ai 9 8)) (C := RX5) (T := TX5) (N := 10) hx hb hts hin hown hK hP 0 rfl rfl 0 (by decide) (hts (.fieldLink RX5 10 "HatReservations" "hall" "LHatReservations$Hall;") (by decide +kernel)) (fun _ h9 => h9) rfl dX5_idlestGuest_1 ?_
  refine hcRi (As := []) (rest := []) 0 4 ⟨hx, hb, hml, hown, hts⟩ (kX3_idlest l D ca (ai 9) (og0 u)  ) (cwV 0 hts gX5_idlestGuest_X3_idlest rfl rfl rfl (by decide +kernel) ⟨Nat.le_of_ble_eq_true rfl, Nat.le_of_ble_eq_true rfl⟩) hK (OP_hall hP) rfl rfl rfl hl.1 rfl (Nat.le_of_ble_eq_true rfl) ⟨Nat.le_of_ble_eq_true rfl, Nat.le_of_ble_eq_true rfl⟩ dX5_idlestGuest_4 ?_
  refine lv_istore_n (lv' := [(1, .int (fX3_idlest (og0 u))), (0, .ref (ad 0))]) hx hb dX5_idlestGuest_7 rfl hl (by decide) rfl (fun ls hl => ?_)
  refine lv_iload_n hx hb dX5_idlestGuest_8 rfl (lv_at hl 0 rfl) ?_
  refine lv_iconst (v := (-1)) hx hb dX5_idlestGuest_9 (by decide) ?_
  refine lv_icmp_ne (tgt := 23) hx hb dX5_idlestGuest_10 (by decide) (fun c_10 => ?_) (fun c_10 => ?_)
  · have hf := hf.trans (if_neg c_10)
    refine lv_iload_n hx hb dX5_idlestGuest_23 rfl (lv_at hl 0 rfl) ?_
    refine vx_ret (W.widen (k := 2) (n := 12) (Nat.le_of_ble_eq_true rfl) (Nat.le_of_ble_eq_true rfl) ?_)
    exact W.iret (v := fX3_idlest (og0 u)) hx hb hr (fun t ht hW => ⟨⟨fX3_idlest (og0 u), u, rfl, hf.symm, by rw [ht]; exact hP, va_K.moved hW.alike hK, hD⟩, hS.F ht⟩) hS.2.2 dX5_idlestGuest_24
  · have hf := hf.trans (if_pos c_10)
    exact thrNSE (is := 221) (text := "no hat is placed") hx hb hfl hown (hts (.classLink RX5 170 "java/util/NoSuchElementException") (by decide +kernel)) (hts (.initialized "java/util/NoSuchElementException") (by decide +kernel)) (fun w hw => hts w (List.mem_cons_of_mem _ (List.mem_append_left _ (List.mem_append_right _ hw)))) hX (by decide +kernel) hS (by rw [hml]; exact hl.1) dX5_idlestGuest_13 dX5_idlestGuest_16 dX5_idlestGuest_17 dX5_idlestGuest_19 dX5_idlestGuest_22 hxt (Nat.le_of_ble_eq_true rfl) (Nat.le_of_ble_eq_true rfl) (Nat.le_of_ble_eq_true rfl) (Nat.le_of_ble_eq_true rfl) hlocks (fun t hAl h1 h2 => xc_T (w := u) (k := 1) 0 rfl rfl (by rw [hf]) hP hD hS h1 h2) hS.2.2 (Nat.le_of_ble_eq_true rfl) (Nat.le_of_ble_eq_true rfl)
def fX5_isCovered (u : OS) (x1 : Int32) : Nat × Int32 × OS :=
  (if fX5_requireChair x1 = 0 then (if (fX3_covererAt (og0 u) x1) = (-1) then (0, 0, u) else (0, 1, u)) else (fX5_requireChair x1, 0, u))
set_option maxHeartbeats 4000000 in
set_option maxRecDepth 100000 in
/-- isCovered -/
theorem kX5_isCovered (l : Launch) (hfl : l.stackTraces = false) (D : va_G) (ca : Nat → ClassId) (en ks vs : Nat → Nat) (ai : Nat → Nat → Nat) (ad bd : Nat → Nat) (sz : Nat) (u : OS) (x1 : Int32) (hoi : OI u) : HMet l yX5_isCovered wsX5_isCovered ({ frames := 7, cells := 2, slots := 12, locals := 102 }) D ca en ks vs ai ad bd sz u [.ref (ad 0), .int x1] ["java/lang/IndexOutOfBoundsException"] (fX5_isCovered u x1) := by
  unfold HMet
  refine vx_ofW (cc := cX5_isCovered) (maxL := 2) (ret := (some .boolean)) (by decide) rfl ?_
  intro p e s m args below meth c s₁ B hml hxt hv
  obtain ⟨rfl, hsz, hP, hK, hD0, hX⟩ := hv
  have hx := B.exec
  have hb := B.bytes
  have hr := B.returns
  have hts := atoms_spec (ws := wsX5_isCovered) B.pre
  have hown : s.vm.findClass RX5 = some m.cls := findClass_of_methodNamed B.named
  have hlocks := B.notSynchronized
  have hin5 : ∀ w ∈ wsX50, w ∈ wsX5_isCovered := by decide +kernel
  have hin3 : ∀ w ∈ wsX30, w ∈ wsX5_isCovered := by decide +kernel
  have hin := hin5
  subst hsz
  have hD := hD0.self (sz := s.heap.size)
  generalize hAe : va_A (OW ca en ai ad bd u) s.heap.size = A at hD hX ⊢
  have hA : ∀ q : Nat, s.heap.size ≤ q → A q := fun q h => by rw [← hAe]; exact Or.inr h
  have hS : va_S A s.heap s.heap [] := va_S.rf
  have hf : fX5_isCovered u x1 = fX5_isCovered u x1 := rfl
  refine W_entry (Nat.le_of_ble_eq_true rfl) (fun ls hl => ?_)
  have hl : lv_has ls 2 [(0, .ref (ad 0)), (1, .int x1)] := hl
  refine lv_iload_n hx hb dX5_isCovered_0 rfl (lv_at hl 1 rfl) ?_
  refine hcCSv (names := ["java/lang/IndexOutOfBoundsException"]) (k := fX5_requireChair x1) (As := [.int x1]) (rest := []) (HX_ok en ks vs) ⟨hx, hb, hml, hown, hts⟩ (kX5_requireChair l hfl D ca en ks vs _ x1) (va_cwS 1 hts gX5_isCovered_X5_requireChair rfl rfl rfl (by decide +kernel) ⟨Nat.le_of_ble_eq_true rfl, Nat.le_of_ble_eq_true rfl⟩) hK hP hD hS hA hX rfl hl.1 rfl (Nat.le_of_ble_eq_true rfl) ⟨(Nat.le_of_ble_eq_true rfl), (Nat.le_of_ble_eq_true rfl)⟩ dX5_isCovered_1 (fun i E9 ce q9 H locs hi hk9 hP hD hS h5 h6 h7 => ?_) (fun H locs z_1 hP hD hS => ?_)
  · have hf := hf.trans (if_neg (show ¬ fX5_requireChair x1 = 0 by rw [hk9]; exact Nat.succ_ne_zero i))
    exact vx_out (fun x h => (hxt x h).elim) hlocks h5 h6 h7 (xc_o (w := u) i (pre_get (m := []) hi) hk9 (by rw [hf]) hP hD hS) hS.2.2 (Nat.le_of_ble_eq_true rfl) (Nat.le_of_ble_eq_true rfl)
  · have hf := hf.trans (if_pos z_1)
    refine lv_aload_n hx hb dX5_isCovered_4 rfl (lv_at hl 0 rfl) ?_
    refine va_get (D := D) (ci := 6) (v := .ref (ai 9 8)) (C := RX5) (T := TX5) (N := 10) hx hb hts hin hown hK hP 0 rfl rfl 0 (by decide) (hts (.fieldLink RX5 10 "HatReservations" "hall" "LHatReservations$Hall;") (by decide +kernel)) (fun _ h9 => h9) rfl dX5_isCovered_5 ?_
    refine lv_iload_n hx hb dX5_isCovered_8 rfl (lv_at hl 1 rfl) ?_
    refine hcRi (As := [.int x1]) (rest := []) 0 4 ⟨hx, hb, hml, hown, hts⟩ (kX3_covererAt l D ca (ai 9) (og0 u) x1 ) (cwV 1 hts gX5_isCovered_X3_covererAt rfl rfl rfl (by decide +kernel) ⟨Nat.le_of_ble_eq_true rfl, Nat.le_of_ble_eq_true rfl⟩) hK (OP_hall hP) rfl rfl rfl hl.1 rfl (Nat.le_of_ble_eq_true rfl) ⟨Nat.le_of_ble_eq_true rfl, Nat.le_of_ble_eq_true rfl⟩ dX5_isCovered_9 ?_
    refine lv_iconst (v := (-1)) hx hb dX5_isCovered_12 (by decide) ?_
    refine lv_icmp_eq (tgt := 20) hx hb dX5_isCovered_13 (by decide) (fun c_13 => ?_) (fun c_13 => ?_)
    · have hf := hf.trans (if_pos c_13)
      refine lv_iconst (v := 0) hx hb dX5_isCovered_20 (by decide) ?_
      refine vx_ret (W.widen (k := 2) (n := 12) (Nat.le_of_ble_eq_true rfl) (Nat.le_of_ble_eq_true rfl) ?_)
      exact W.zret (ty := .boolean) (v := 0) hx hb hr (by decide) (fun t ht hW => ⟨⟨0, u, rfl, hf.symm, by rw [ht]; exact hP, va_K.moved hW.alike hK, hD⟩, hS.F ht⟩) hS.2.2 dX5_isCovered_21
    · have hf := hf.trans (if_neg c_13)
      refine lv_iconst (v := 1) hx hb dX5_isCovered_16 (by decide) ?_
      refine lv_goto (tgt := 21) hx hb dX5_isCovered_17 (by decide) ?_
      refine vx_ret (W.widen (k := 2) (n := 12) (Nat.le_of_ble_eq_true rfl) (Nat.le_of_ble_eq_true rfl) ?_)
      exact W.zret (ty := .boolean) (v := 1) hx hb hr (by decide) (fun t ht hW => ⟨⟨1, u, rfl, hf.symm, by rw [ht]; exact hP, va_K.moved hW.alike hK, hD⟩, hS.F ht⟩) hS.2.2 dX5_isCovered_21
def fX5_covererOf (u : OS) (x1 : Int32) : Nat × Int32 × OS :=
  (if fX5_requireChair x1 = 0 then (if (fX3_covererAt (og0 u) x1) = (-1) then (2, 0, u) else (0, fX3_covererAt (og0 u) x1, u)) else (fX5_requireChair x1, 0, u))
set_option maxHeartbeats 4000000 in
set_option maxRecDepth 100000 in
/-- covererOf -/
theorem kX5_covererOf (l : Launch) (hfl : l.stackTraces = false) (D : va_G) (ca : Nat → ClassId) (en ks vs : Nat → Nat) (ai : Nat → Nat → Nat) (ad bd : Nat → Nat) (sz : Nat) (u : OS) (x1 : Int32) (hoi : OI u) : HMet l yX5_covererOf wsX5_covererOf ({ frames := 7, cells := 2, slots := 12, locals := 102 }) D ca en ks vs ai ad bd sz u [.ref (ad 0), .int x1] ["java/lang/IndexOutOfBoundsException", "java/util/NoSuchElementException"] (fX5_covererOf u x1) := by
  unfold HMet
  refine vx_ofW (cc := cX5_covererOf) (maxL := 3) (ret := (some .int)) (by decide) rfl ?_
  intro p e s m args below meth c s₁ B hml hxt hv
  obtain ⟨rfl, hsz, hP, hK, hD0, hX⟩ := hv
  have hx := B.exec
  have hb := B.bytes
  have hr := B.returns
  have hts := atoms_spec (ws := wsX5_covererOf) B.pre
  have hown : s.vm.findClass RX5 = some m.cls := findClass_of_methodNamed B.named
  have hlocks := B.notSynchronized
  have hin5 : ∀ w ∈ wsX50, w ∈ wsX5_covererOf := by decide +kernel
  have hin3 : ∀ w ∈ wsX30, w ∈ wsX5_covererOf := by decide +kernel
  have hin := hin5
  subst hsz
  have hD := hD0.self (sz := s.heap.size)
  generalize hAe : va_A (OW ca en ai ad bd u) s.heap.size = A at hD hX ⊢
  have hA : ∀ q : Nat, s.heap.size ≤ q → A q := fun q h => by rw [← hAe]; exact Or.inr h
  have hS : va_S A s.heap s.heap [] := va_S.rf
  have hf : fX5_covererOf u x1 = fX5_covererOf u x1 := rfl
  refine W_entry (Nat.le_of_ble_eq_true rfl) (fun ls hl => ?_)
  have hl : lv_has ls 3 [(0, .ref (ad 0)), (1, .int x1)] := hl
  refine lv_iload_n hx hb dX5_covererOf_0 rfl (lv_at hl 1 rfl) ?_
  refine hcCSv (names := ["java/lang/IndexOutOfBoundsException"]) (k := fX5_requireChair x1) (As := [.int x1]) (rest := []) (HX_ok en ks vs) ⟨hx, hb, hml, hown, hts⟩ (kX5_requireChair l hfl D ca en ks vs _ x1) (va_cwS 1 hts gX5_covererOf_X5_requireChair rfl rfl rfl (by decide +kernel) ⟨Nat.le_of_ble_eq_true rfl, Nat.le_of_ble_eq_true rfl⟩) hK hP hD hS hA hX rfl hl.1 rfl (Nat.le_of_ble_eq_true rfl) ⟨(Nat.le_of_ble_eq_true rfl), (Nat.le_of_ble_eq_true rfl)⟩ dX5_covererOf_1 (fun i E9 ce q9 H locs hi hk9 hP hD hS h5 h6 h7 => ?_) (fun H locs z_1 hP hD hS => ?_)
  · have hf := hf.trans (if_neg (show ¬ fX5_requireChair x1 = 0 by rw [hk9]; exact Nat.succ_ne_zero i))
    exact vx_out (fun x h => (hxt x h).elim) hlocks h5 h6 h7 (xc_o (w := u) i (pre_get (m := ["java/util/NoSuchElementException"]) hi) hk9 (by rw [hf]) hP hD hS) hS.2.2 (Nat.le_of_ble_eq_true rfl) (Nat.le_of_ble_eq_true rfl)
  · have hf := hf.trans (if_pos z_1)
    refine lv_aload_n hx hb dX5_covererOf_4 rfl (lv_at hl 0 rfl) ?_
    refine va_get (D := D) (ci := 6) (v := .ref (ai 9 8)) (C := RX5) (T := TX5) (N := 10) hx hb hts hin hown hK hP 0 rfl rfl 0 (by decide) (hts (.fieldLink RX5 10 "HatReservations" "hall" "LHatReservations$Hall;") (by decide +kernel)) (fun _ h9 => h9) rfl dX5_covererOf_5 ?_
    refine lv_iload_n hx hb dX5_covererOf_8 rfl (lv_at hl 1 rfl) ?_
    refine hcRi (As := [.int x1]) (rest := []) 0 4 ⟨hx, hb, hml, hown, hts⟩ (kX3_covererAt l D ca (ai 9) (og0 u) x1 ) (cwV 1 hts gX5_covererOf_X3_covererAt rfl rfl rfl (by decide +kernel) ⟨Nat.le_of_ble_eq_true rfl, Nat.le_of_ble_eq_true rfl⟩) hK (OP_hall hP) rfl rfl rfl hl.1 rfl (Nat.le_of_ble_eq_true rfl) ⟨Nat.le_of_ble_eq_true rfl, Nat.le_of_ble_eq_true rfl⟩ dX5_covererOf_9 ?_
    refine lv_istore_n (lv' := [(2, .int (fX3_covererAt (og0 u) x1)), (0, .ref (ad 0)), (1, .int x1)]) hx hb dX5_covererOf_12 rfl hl (by decide) rfl (fun ls hl => ?_)
    refine lv_iload_n hx hb dX5_covererOf_13 rfl (lv_at hl 0 rfl) ?_
    refine lv_iconst (v := (-1)) hx hb dX5_covererOf_14 (by decide) ?_
    refine lv_icmp_ne (tgt := 28) hx hb dX5_covererOf_15 (by decide) (fun c_15 => ?_) (fun c_15 => ?_)
    · have hf := hf.trans (if_neg c_15)
      refine lv_iload_n hx hb dX5_covererOf_28 rfl (lv_at hl 0 rfl) ?_
      refine vx_ret (W.widen (k := 2) (n := 12) (Nat.le_of_ble_eq_true rfl) (Nat.le_of_ble_eq_true rfl) ?_)
      exact W.iret (v := fX3_covererAt (og0 u) x1) hx hb hr (fun t ht hW => ⟨⟨fX3_covererAt (og0 u) x1, u, rfl, hf.symm, by rw [ht]; exact hP, va_K.moved hW.alike hK, hD⟩, hS.F ht⟩) hS.2.2 dX5_covererOf_29
    · have hf := hf.trans (if_pos c_15)
      exact thrNSE (is := 186) (text := "the chair is not covered") hx hb hfl hown (hts (.classLink RX5 170 "java/util/NoSuchElementException") (by decide +kernel)) (hts (.initialized "java/util/NoSuchElementException") (by decide +kernel)) (fun w hw => hts w (List.mem_cons_of_mem _ (List.mem_append_left _ (List.mem_append_left _ (List.mem_append_right _ hw))))) hX (by decide +kernel) hS (by rw [hml]; exact hl.1) dX5_covererOf_18 dX5_covererOf_21 dX5_covererOf_22 dX5_covererOf_24 dX5_covererOf_27 hxt (Nat.le_of_ble_eq_true rfl) (Nat.le_of_ble_eq_true rfl) (Nat.le_of_ble_eq_true rfl) (Nat.le_of_ble_eq_true rfl) hlocks (fun t hAl h1 h2 => xc_T (w := u) (k := 2) 1 rfl rfl (by rw [hf]) hP hD hS h1 h2) hS.2.2 (Nat.le_of_ble_eq_true rfl) (Nat.le_of_ble_eq_true rfl)
def fX5_longestFreeRun (u : OS) (x1 : Int32) : Nat × Int32 × OS :=
  (if fX5_requireRow x1 = 0 then (0, fX3_freeRunByScan (og0 u) x1, u) else (fX5_requireRow x1, 0, u))
set_option maxHeartbeats 4000000 in
set_option maxRecDepth 100000 in
/-- longestFreeRun -/
theorem kX5_longestFreeRun (l : Launch) (hfl : l.stackTraces = false) (D : va_G) (ca : Nat → ClassId) (en ks vs : Nat → Nat) (ai : Nat → Nat → Nat) (ad bd : Nat → Nat) (sz : Nat) (u : OS) (x1 : Int32) (hoi : OI u) : HMet l yX5_longestFreeRun wsX5_longestFreeRun ({ frames := 7, cells := 2, slots := 12, locals := 102 }) D ca en ks vs ai ad bd sz u [.ref (ad 0), .int x1] ["java/lang/IndexOutOfBoundsException"] (fX5_longestFreeRun u x1) := by
  unfold HMet
  refine vx_ofW (cc := cX5_longestFreeRun) (maxL := 2) (ret := (some .int)) (by decide) rfl ?_
  intro p e s m args below meth c s₁ B hml hxt hv
  obtain ⟨rfl, hsz, hP, hK, hD0, hX⟩ := hv
  have hx := B.exec
  have hb := B.bytes
  have hr := B.returns
  have hts := atoms_spec (ws := wsX5_longestFreeRun) B.pre
  have hown : s.vm.findClass RX5 = some m.cls := findClass_of_methodNamed B.named
  have hlocks := B.notSynchronized
  have hin5 : ∀ w ∈ wsX50, w ∈ wsX5_longestFreeRun := by decide +kernel
  have hin3 : ∀ w ∈ wsX30, w ∈ wsX5_longestFreeRun := by decide +kernel
  have hin := hin5
  subst hsz
  have hD := hD0.self (sz := s.heap.size)
  generalize hAe : va_A (OW ca en ai ad bd u) s.heap.size = A at hD hX ⊢
  have hA : ∀ q : Nat, s.heap.size ≤ q → A q := fun q h => by rw [← hAe]; exact Or.inr h
  have hS : va_S A s.heap s.heap [] := va_S.rf
  have hf : fX5_longestFreeRun u x1 = fX5_longestFreeRun u x1 := rfl
  refine W_entry (Nat.le_of_ble_eq_true rfl) (fun ls hl => ?_)
  have hl : lv_has ls 2 [(0, .ref (ad 0)), (1, .int x1)] := hl
  refine lv_iload_n hx hb dX5_longestFreeRun_0 rfl (lv_at hl 1 rfl) ?_
  refine hcCSv (names := ["java/lang/IndexOutOfBoundsException"]) (k := fX5_requireRow x1) (As := [.int x1]) (rest := []) (HX_ok en ks vs) ⟨hx, hb, hml, hown, hts⟩ (kX5_requireRow l hfl D ca en ks vs _ x1) (va_cwS 1 hts gX5_longestFreeRun_X5_requireRow rfl rfl rfl (by decide +kernel) ⟨Nat.le_of_ble_eq_true rfl, Nat.le_of_ble_eq_true rfl⟩) hK hP hD hS hA hX rfl hl.1 rfl (Nat.le_of_ble_eq_true rfl) ⟨(Nat.le_of_ble_eq_true rfl), (Nat.le_of_ble_eq_true rfl)⟩ dX5_longestFreeRun_1 (fun i E9 ce q9 H locs hi hk9 hP hD hS h5 h6 h7 => ?_) (fun H locs z_1 hP hD hS => ?_)
  · have hf := hf.trans (if_neg (show ¬ fX5_requireRow x1 = 0 by rw [hk9]; exact Nat.succ_ne_zero i))
    exact vx_out (fun x h => (hxt x h).elim) hlocks h5 h6 h7 (xc_o (w := u) i (pre_get (m := []) hi) hk9 (by rw [hf]) hP hD hS) hS.2.2 (Nat.le_of_ble_eq_true rfl) (Nat.le_of_ble_eq_true rfl)
  · have hf := hf.trans (if_pos z_1)
    refine lv_aload_n hx hb dX5_longestFreeRun_4 rfl (lv_at hl 0 rfl) ?_
    refine va_get (D := D) (ci := 6) (v := .ref (ai 9 8)) (C := RX5) (T := TX5) (N := 10) hx hb hts hin hown hK hP 0 rfl rfl 0 (by decide) (hts (.fieldLink RX5 10 "HatReservations" "hall" "LHatReservations$Hall;") (by decide +kernel)) (fun _ h9 => h9) rfl dX5_longestFreeRun_5 ?_
    refine lv_iload_n hx hb dX5_longestFreeRun_8 rfl (lv_at hl 1 rfl) ?_
    refine hcRi (As := [.int x1]) (rest := []) 0 4 ⟨hx, hb, hml, hown, hts⟩ (kX3_freeRunByScan l D ca (ai 9) (og0 u) x1 ) (cwV 1 hts gX5_longestFreeRun_X3_freeRunByScan rfl rfl rfl (by decide +kernel) ⟨Nat.le_of_ble_eq_true rfl, Nat.le_of_ble_eq_true rfl⟩) hK (OP_hall hP) rfl rfl rfl hl.1 rfl (Nat.le_of_ble_eq_true rfl) ⟨Nat.le_of_ble_eq_true rfl, Nat.le_of_ble_eq_true rfl⟩ dX5_longestFreeRun_9 ?_
    refine vx_ret (W.widen (k := 2) (n := 12) (Nat.le_of_ble_eq_true rfl) (Nat.le_of_ble_eq_true rfl) ?_)
    exact W.iret (v := fX3_freeRunByScan (og0 u) x1) hx hb hr (fun t ht hW => ⟨⟨fX3_freeRunByScan (og0 u) x1, u, rfl, hf.symm, by rw [ht]; exact hP, va_K.moved hW.alike hK, hD⟩, hS.F ht⟩) hS.2.2 dX5_longestFreeRun_12
def fX5_longestFreeRunByMask (u : OS) (x1 : Int32) : Nat × Int32 × OS :=
  (if fX5_requireRow x1 = 0 then (0, 0, u) else (fX5_requireRow x1, 0, u))
set_option maxHeartbeats 4000000 in
set_option maxRecDepth 100000 in
/-- longestFreeRunByMask -/
theorem kX5_longestFreeRunByMask (l : Launch) (hfl : l.stackTraces = false) (D : va_G) (ca : Nat → ClassId) (en ks vs : Nat → Nat) (ai : Nat → Nat → Nat) (ad bd : Nat → Nat) (sz : Nat) (u : OS) (x1 : Int32) (hoi : OI u) (hdead : ¬ fX5_requireRow x1 = 0) : HMet l yX5_longestFreeRunByMask wsX5_longestFreeRunByMask ({ frames := 7, cells := 2, slots := 12, locals := 102 }) D ca en ks vs ai ad bd sz u [.ref (ad 0), .int x1] ["java/lang/IndexOutOfBoundsException"] (fX5_longestFreeRunByMask u x1) := by
  unfold HMet
  refine vx_ofW (cc := cX5_longestFreeRunByMask) (maxL := 2) (ret := (some .int)) (by decide) rfl ?_
  intro p e s m args below meth c s₁ B hml hxt hv
  obtain ⟨rfl, hsz, hP, hK, hD0, hX⟩ := hv
  have hx := B.exec
  have hb := B.bytes
  have hr := B.returns
  have hts := atoms_spec (ws := wsX5_longestFreeRunByMask) B.pre
  have hown : s.vm.findClass RX5 = some m.cls := findClass_of_methodNamed B.named
  have hlocks := B.notSynchronized
  have hin5 : ∀ w ∈ wsX50, w ∈ wsX5_longestFreeRunByMask := by decide +kernel
  have hin3 : ∀ w ∈ wsX30, w ∈ wsX5_longestFreeRunByMask := by decide +kernel
  have hin := hin5
  subst hsz
  have hD := hD0.self (sz := s.heap.size)
  generalize hAe : va_A (OW ca en ai ad bd u) s.heap.size = A at hD hX ⊢
  have hA : ∀ q : Nat, s.heap.size ≤ q → A q := fun q h => by rw [← hAe]; exact Or.inr h
  have hS : va_S A s.heap s.heap [] := va_S.rf
  have hf : fX5_longestFreeRunByMask u x1 = fX5_longestFreeRunByMask u x1 := rfl
  refine W_entry (Nat.le_of_ble_eq_true rfl) (fun ls hl => ?_)
  have hl : lv_has ls 2 [(0, .ref (ad 0)), (1, .int x1)] := hl
  refine lv_iload_n hx hb dX5_longestFreeRunByMask_0 rfl (lv_at hl 1 rfl) ?_
  refine hcCSv (names := ["java/lang/IndexOutOfBoundsException"]) (k := fX5_requireRow x1) (As := [.int x1]) (rest := []) (HX_ok en ks vs) ⟨hx, hb, hml, hown, hts⟩ (kX5_requireRow l hfl D ca en ks vs _ x1) (va_cwS 1 hts gX5_longestFreeRunByMask_X5_requireRow rfl rfl rfl (by decide +kernel) ⟨Nat.le_of_ble_eq_true rfl, Nat.le_of_ble_eq_true rfl⟩) hK hP hD hS hA hX rfl hl.1 rfl (Nat.le_of_ble_eq_true rfl) ⟨(Nat.le_of_ble_eq_true rfl), (Nat.le_of_ble_eq_true rfl)⟩ dX5_longestFreeRunByMask_1 (fun i E9 ce q9 H locs hi hk9 hP hD hS h5 h6 h7 => ?_) (fun H locs z_1 hP hD hS => ?_)
  · have hf := hf.trans (if_neg (show ¬ fX5_requireRow x1 = 0 by rw [hk9]; exact Nat.succ_ne_zero i))
    exact vx_out (fun x h => (hxt x h).elim) hlocks h5 h6 h7 (xc_o (w := u) i (pre_get (m := []) hi) hk9 (by rw [hf]) hP hD hS) hS.2.2 (Nat.le_of_ble_eq_true rfl) (Nat.le_of_ble_eq_true rfl)
  · exact absurd z_1 hdead
def fX5_guestAtRank (u : OS) (x1 : Int32) : Nat × Int32 × OS :=
  (if (fX3_guestBehind (og0 u) x1) = (-1) then (1, 0, u) else (0, fX3_guestBehind (og0 u) x1, u))
set_option maxHeartbeats 4000000 in
set_option maxRecDepth 100000 in
/-- guestAtRank -/
theorem kX5_guestAtRank (l : Launch) (hfl : l.stackTraces = false) (D : va_G) (ca : Nat → ClassId) (en ks vs : Nat → Nat) (ai : Nat → Nat → Nat) (ad bd : Nat → Nat) (sz : Nat) (u : OS) (x1 : Int32) (hoi : OI u) : HMet l yX5_guestAtRank wsX5_guestAtRank ({ frames := 6, cells := 2, slots := 12, locals := 109 }) D ca en ks vs ai ad bd sz u [.ref (ad 0), .int x1] ["java/util/NoSuchElementException"] (fX5_guestAtRank u x1) := by
  unfold HMet
  refine vx_ofW (cc := cX5_guestAtRank) (maxL := 3) (ret := (some .int)) (by decide) rfl ?_
  intro p e s m args below meth c s₁ B hml hxt hv
  obtain ⟨rfl, hsz, hP, hK, hD0, hX⟩ := hv
  have hx := B.exec
  have hb := B.bytes
  have hr := B.returns
  have hts := atoms_spec (ws := wsX5_guestAtRank) B.pre
  have hown : s.vm.findClass RX5 = some m.cls := findClass_of_methodNamed B.named
  have hlocks := B.notSynchronized
  have hin5 : ∀ w ∈ wsX50, w ∈ wsX5_guestAtRank := by decide +kernel
  have hin3 : ∀ w ∈ wsX30, w ∈ wsX5_guestAtRank := by decide +kernel
  have hin := hin5
  subst hsz
  have hD := hD0.self (sz := s.heap.size)
  generalize hAe : va_A (OW ca en ai ad bd u) s.heap.size = A at hD hX ⊢
  have hA : ∀ q : Nat, s.heap.size ≤ q → A q := fun q h => by rw [← hAe]; exact Or.inr h
  have hS : va_S A s.heap s.heap [] := va_S.rf
  have hf : fX5_guestAtRank u x1 = fX5_guestAtRank u x1 := rfl
  refine W_entry (Nat.le_of_ble_eq_true rfl) (fun ls hl => ?_)
  have hl : lv_has ls 3 [(0, .ref (ad 0)), (1, .int x1)] := hl
  refine lv_aload_n hx hb dX5_guestAtRank_0 rfl (lv_at hl 0 rfl) ?_
  refine va_get (D := D) (ci := 6) (v := .ref (ai 9 8)) (C := RX5) (T := TX5) (N := 10) hx hb hts hin hown hK hP 0 rfl rfl 0 (by decide) (hts (.fieldLink RX5 10 "HatReservations" "hall" "LHatReservations$Hall;") (by decide +kernel)) (fun _ h9 => h9) rfl dX5_guestAtRank_1 ?_
  refine lv_iload_n hx hb dX5_guestAtRank_4 rfl (lv_at hl 1 rfl) ?_
  refine hcRi (As := [.int x1]) (rest := []) 0 4 ⟨hx, hb, hml, hown, hts⟩ (kX3_guestBehind l D ca (ai 9) (og0 u) x1 ) (cwV 1 hts gX5_guestAtRank_X3_guestBehind rfl rfl rfl (by decide +kernel) ⟨Nat.le_of_ble_eq_true rfl, Nat.le_of_ble_eq_true rfl⟩) hK (OP_hall hP) rfl rfl rfl hl.1 rfl (Nat.le_of_ble_eq_true rfl) ⟨Nat.le_of_ble_eq_true rfl, Nat.le_of_ble_eq_true rfl⟩ dX5_guestAtRank_5 ?_
  refine lv_istore_n (lv' := [(2, .int (fX3_guestBehind (og0 u) x1)), (0, .ref (ad 0)), (1, .int x1)]) hx hb dX5_guestAtRank_8 rfl hl (by decide) rfl (fun ls hl => ?_)
  refine lv_iload_n hx hb dX5_guestAtRank_9 rfl (lv_at hl 0 rfl) ?_
  refine lv_iconst (v := (-1)) hx hb dX5_guestAtRank_10 (by decide) ?_
  refine lv_icmp_ne (tgt := 24) hx hb dX5_guestAtRank_11 (by decide) (fun c_11 => ?_) (fun c_11 => ?_)
  · have hf := hf.trans (if_neg c_11)
    refine lv_iload_n hx hb dX5_guestAtRank_24 rfl (lv_at hl 0 rfl) ?_
    refine vx_ret (W.widen (k := 2) (n := 12) (Nat.le_of_ble_eq_true rfl) (Nat.le_of_ble_eq_true rfl) ?_)
    exact W.iret (v := fX3_guestBehind (og0 u) x1) hx hb hr (fun t ht hW => ⟨⟨fX3_guestBehind (og0 u) x1, u, rfl, hf.symm, by rw [ht]; exact hP, va_K.moved hW.alike hK, hD⟩, hS.F ht⟩) hS.2.2 dX5_guestAtRank_25
  · have hf := hf.trans (if_pos c_11)
    exact thrNSE (is := 245) (text := "no such rank") hx hb hfl hown (hts (.classLink RX5 170 "java/util/NoSuchElementException") (by decide +kernel)) (hts (.initialized "java/util/NoSuchElementException") (by decide +kernel)) (fun w hw => hts w (List.mem_cons_of_mem _ (List.mem_append_left _ (List.mem_append_right _ hw)))) hX (by decide +kernel) hS (by rw [hml]; exact hl.1) dX5_guestAtRank_14 dX5_guestAtRank_17 dX5_guestAtRank_18 dX5_guestAtRank_20 dX5_guestAtRank_23 hxt (Nat.le_of_ble_eq_true rfl) (Nat.le_of_ble_eq_true rfl) (Nat.le_of_ble_eq_true rfl) (Nat.le_of_ble_eq_true rfl) hlocks (fun t hAl h1 h2 => xc_T (w := u) (k := 1) 0 rfl rfl (by rw [hf]) hP hD hS h1 h2) hS.2.2 (Nat.le_of_ble_eq_true rfl) (Nat.le_of_ble_eq_true rfl)
def fX5_append (u : OS) (x1 : Int32) : Nat × Int32 × OS :=
  (if x1 < 32 then (1, 0, u) else (if x1 ≤ 126 then (if (fX2_isFull (og5 u)) = 0 then (0, (fX2_add (og5 u) x1).1, os5 (fX2_add (og5 u) x1).2 u) else (2, 0, u)) else (1, 0, u)))
set_option maxHeartbeats 4000000 in
set_option maxRecDepth 100000 in
/-- append -/
theorem kX5_append (l : Launch) (hfl : l.stackTraces = false) (D : va_G) (ca : Nat → ClassId) (en ks vs : Nat → Nat) (ai : Nat → Nat → Nat) (ad bd : Nat → Nat) (sz : Nat) (u : OS) (x1 : Int32) (hoi : OI u) : HMet l yX5_append wsX5_append ({ frames := 6, cells := 2, slots := 12, locals := 82 }) D ca en ks vs ai ad bd sz u [.ref (ad 0), .int x1] ["java/lang/IllegalArgumentException", "java/lang/IllegalStateException"] (fX5_append u x1) := by
  unfold HMet
  refine vx_ofW (cc := cX5_append) (maxL := 2) (ret := (some .int)) (by decide) rfl ?_
  intro p e s m args below meth c s₁ B hml hxt hv
  obtain ⟨rfl, hsz, hP, hK, hD0, hX⟩ := hv
  have hx := B.exec
  have hb := B.bytes
  have hr := B.returns
  have hts := atoms_spec (ws := wsX5_append) B.pre
  have hown : s.vm.findClass RX5 = some m.cls := findClass_of_methodNamed B.named
  have hlocks := B.notSynchronized
  have hin5 : ∀ w ∈ wsX50, w ∈ wsX5_append := by decide +kernel
  have hin2 : ∀ w ∈ wsX20, w ∈ wsX5_append := by decide +kernel
  have hin := hin5
  subst hsz
  have hD := hD0.self (sz := s.heap.size)
  generalize hAe : va_A (OW ca en ai ad bd u) s.heap.size = A at hD hX ⊢
  have hA : ∀ q : Nat, s.heap.size ≤ q → A q := fun q h => by rw [← hAe]; exact Or.inr h
  have hS : va_S A s.heap s.heap [] := va_S.rf
  have hf : fX5_append u x1 = fX5_append u x1 := rfl
  refine W_entry (Nat.le_of_ble_eq_true rfl) (fun ls hl => ?_)
  have hl : lv_has ls 2 [(0, .ref (ad 0)), (1, .int x1)] := hl
  refine lv_iload_n hx hb dX5_append_0 rfl (lv_at hl 1 rfl) ?_
  refine lv_bipush (v := 32) hx hb dX5_append_1 (by decide) ?_
  refine lv_icmp_lt (tgt := 12) hx hb dX5_append_3 (by decide) (fun c_3 => ?_) (fun c_3 => ?_)
  · have hf := hf.trans (if_pos c_3)
    exact thrIAEW (is := 259) (text := "the code of the character is not from 32 to 126") hx hb hfl hown (hts (.classLink RX5 58 "java/lang/IllegalArgumentException") (by decide +kernel)) (hts (.initialized "java/lang/IllegalArgumentException") (by decide +kernel)) (fun w hw => hts w (List.mem_cons_of_mem _ (List.mem_append_left _ (List.mem_append_left _ (List.mem_append_right _ hw))))) hX (by decide +kernel) hS (by rw [hml]; exact hl.1) dX5_append_12 dX5_append_15 dX5_append_16 dX5_append_19 dX5_append_22 hxt (Nat.le_of_ble_eq_true rfl) (Nat.le_of_ble_eq_true rfl) (Nat.le_of_ble_eq_true rfl) (Nat.le_of_ble_eq_true rfl) hlocks (fun t hAl h1 h2 => xc_T (w := u) (k := 1) 0 rfl rfl (by rw [hf]) hP hD hS h1 h2) hS.2.2 (Nat.le_of_ble_eq_true rfl) (Nat.le_of_ble_eq_true rfl)
  · have hf := hf.trans (if_neg c_3)
    refine lv_iload_n hx hb dX5_append_6 rfl (lv_at hl 1 rfl) ?_
    refine lv_bipush (v := 126) hx hb dX5_append_7 (by decide) ?_
    refine lv_icmp_le (tgt := 23) hx hb dX5_append_9 (by decide) (fun c_9 => ?_) (fun c_9 => ?_)
    · have hf := hf.trans (if_pos c_9)
      refine lv_aload_n hx hb dX5_append_23 rfl (lv_at hl 0 rfl) ?_
      refine va_get (D := D) (ci := 6) (v := .ref (bd 4)) (C := RX5) (T := TX5) (N := 10) hx hb hts hin hown hK hP 0 rfl rfl 3 (by decide) (hts (.fieldLink RX5 29 "HatReservations" "commandText" "LHatReservations$CommandText;") (by decide +kernel)) (fun _ h9 => h9) rfl dX5_append_24 ?_
      refine hcRi (As := []) (rest := []) 0 3 ⟨hx, hb, hml, hown, hts⟩ (kX2_isFull l D ca en ks vs bd (og5 u)  hoi.2.2.2.2.2.1) (cwV 0 hts gX5_append_X2_isFull rfl rfl rfl (by decide +kernel) ⟨Nat.le_of_ble_eq_true rfl, Nat.le_of_ble_eq_true rfl⟩) hK (OP_cmd hP) rfl rfl rfl hl.1 rfl (Nat.le_of_ble_eq_true rfl) ⟨Nat.le_of_ble_eq_true rfl, Nat.le_of_ble_eq_true rfl⟩ dX5_append_27 ?_
      refine lv_if_eq (tgt := 44) hx hb dX5_append_30 (by decide) (fun c_30 => ?_) (fun c_30 => ?_)
      · have hf := hf.trans (if_pos c_30)
        refine lv_aload_n hx hb dX5_append_44 rfl (lv_at hl 0 rfl) ?_
        refine va_get (D := D) (ci := 6) (v := .ref (bd 4)) (C := RX5) (T := TX5) (N := 10) hx hb hts hin hown hK hP 0 rfl rfl 3 (by decide) (hts (.fieldLink RX5 29 "HatReservations" "commandText" "LHatReservations$CommandText;") (by decide +kernel)) (fun _ h9 => h9) rfl dX5_append_45 ?_
        refine lv_iload_n hx hb dX5_append_48 rfl (lv_at hl 1 rfl) ?_
        refine hcMi (As := [.int x1]) (rest := []) (wr := OR2 ca ai ad bd u) (f := fun z => CW ca en bd z) (F := fX2_add (og5 u) x1) 0 3 ⟨hx, hb, hml, hown, hts⟩ (kX2_add l D ca en ks vs bd _ (og5 u) x1 (notFull hoi.2.2.2.2.2.1 c_30)) (cwV 1 hts gX5_append_X2_add rfl rfl rfl (by decide +kernel) ⟨Nat.le_of_ble_eq_true rfl, Nat.le_of_ble_eq_true rfl⟩) hK hP hD hS hA OP2 rfl rfl rfl hl.1 rfl (Nat.le_of_ble_eq_true rfl) ⟨Nat.le_of_ble_eq_true rfl, Nat.le_of_ble_eq_true rfl⟩ dX5_append_49 (fun H locs hP hD hS => ?_)
        have hP : va_P D vwCl (OW ca en ai ad bd (os5 (fX2_add (og5 u) x1).2 u)) H := P_perm (OP2 (w := (os5 (fX2_add (og5 u) x1).2 u))).symm hP
        have hD : va_D A (OW ca en ai ad bd (os5 (fX2_add (og5 u) x1).2 u)) := D_perm (OP2 (w := (os5 (fX2_add (og5 u) x1).2 u))).symm hD
        refine vx_ret (W.widen (k := 2) (n := 12) (Nat.le_of_ble_eq_true rfl) (Nat.le_of_ble_eq_true rfl) ?_)
        exact W.iret (v := (fX2_add (og5 u) x1).1) hx hb hr (fun t ht hW => ⟨⟨(fX2_add (og5 u) x1).1, (os5 (fX2_add (og5 u) x1).2 u), rfl, hf.symm, by rw [ht]; exact hP, va_K.moved hW.alike hK, hD⟩, hS.F ht⟩) hS.2.2 dX5_append_52
      · have hf := hf.trans (if_neg c_30)
        exact thrISEW (is := 265) (text := "the command text has 60 characters") hx hb hfl hown (hts (.classLink RX5 65 "java/lang/IllegalStateException") (by decide +kernel)) (hts (.initialized "java/lang/IllegalStateException") (by decide +kernel)) (fun w hw => hts w (List.mem_cons_of_mem _ (List.mem_append_left _ (List.mem_append_right _ hw)))) hX (by decide +kernel) hS (by rw [hml]; exact hl.1) dX5_append_33 dX5_append_36 dX5_append_37 dX5_append_40 dX5_append_43 hxt (Nat.le_of_ble_eq_true rfl) (Nat.le_of_ble_eq_true rfl) (Nat.le_of_ble_eq_true rfl) (Nat.le_of_ble_eq_true rfl) hlocks (fun t hAl h1 h2 => xc_T (w := u) (k := 2) 1 rfl rfl (by rw [hf]) hP hD hS h1 h2) hS.2.2 (Nat.le_of_ble_eq_true rfl) (Nat.le_of_ble_eq_true rfl)
    · have hf := hf.trans (if_neg c_9)
      exact thrIAEW (is := 259) (text := "the code of the character is not from 32 to 126") hx hb hfl hown (hts (.classLink RX5 58 "java/lang/IllegalArgumentException") (by decide +kernel)) (hts (.initialized "java/lang/IllegalArgumentException") (by decide +kernel)) (fun w hw => hts w (List.mem_cons_of_mem _ (List.mem_append_left _ (List.mem_append_left _ (List.mem_append_right _ hw))))) hX (by decide +kernel) hS (by rw [hml]; exact hl.1) dX5_append_12 dX5_append_15 dX5_append_16 dX5_append_19 dX5_append_22 hxt (Nat.le_of_ble_eq_true rfl) (Nat.le_of_ble_eq_true rfl) (Nat.le_of_ble_eq_true rfl) (Nat.le_of_ble_eq_true rfl) hlocks (fun t hAl h1 h2 => xc_T (w := u) (k := 1) 0 rfl rfl (by rw [hf]) hP hD hS h1 h2) hS.2.2 (Nat.le_of_ble_eq_true rfl) (Nat.le_of_ble_eq_true rfl)
def fX5_errorPosition (u : OS) : Nat × Int32 × OS :=
  (if (og9 u) = (-1) then (1, 0, u) else (0, og9 u, u))
set_option maxHeartbeats 4000000 in
set_option maxRecDepth 100000 in
/-- errorPosition -/
theorem kX5_errorPosition (l : Launch) (hfl : l.stackTraces = false) (D : va_G) (ca : Nat → ClassId) (en ks vs : Nat → Nat) (ai : Nat → Nat → Nat) (ad bd : Nat → Nat) (sz : Nat) (u : OS) (hoi : OI u) : HMet l yX5_errorPosition wsX5_errorPosition ({ frames := 6, cells := 2, slots := 12, locals := 82 }) D ca en ks vs ai ad bd sz u [.ref (ad 0)] ["java/util/NoSuchElementException"] (fX5_errorPosition u) := by
  unfold HMet
  refine vx_ofW (cc := cX5_errorPosition) (maxL := 1) (ret := (some .int)) (by decide) rfl ?_
  intro p e s m args below meth c s₁ B hml hxt hv
  obtain ⟨rfl, hsz, hP, hK, hD0, hX⟩ := hv
  have hx := B.exec
  have hb := B.bytes
  have hr := B.returns
  have hts := atoms_spec (ws := wsX5_errorPosition) B.pre
  have hown : s.vm.findClass RX5 = some m.cls := findClass_of_methodNamed B.named
  have hlocks := B.notSynchronized
  have hin5 : ∀ w ∈ wsX50, w ∈ wsX5_errorPosition := by decide +kernel
  have hin := hin5
  subst hsz
  have hD := hD0.self (sz := s.heap.size)
  generalize hAe : va_A (OW ca en ai ad bd u) s.heap.size = A at hD hX ⊢
  have hA : ∀ q : Nat, s.heap.size ≤ q → A q := fun q h => by rw [← hAe]; exact Or.inr h
  have hS : va_S A s.heap s.heap [] := va_S.rf
  have hf : fX5_errorPosition u = fX5_errorPosition u := rfl
  refine W_entry (Nat.le_of_ble_eq_true rfl) (fun ls hl => ?_)
  have hl : lv_has ls 1 [(0, .ref (ad 0))] := hl
  refine lv_aload_n hx hb dX5_errorPosition_0 rfl (lv_at hl 0 rfl) ?_
  refine va_get (D := D) (ci := 6) (v := .int (og9 u)) (C := RX5) (T := TX5) (N := 10) hx hb hts hin hown hK hP 0 rfl rfl 7 (by decide) (hts (.fieldLink RX5 45 "HatReservations" "lastErrorPosition" "I") (by decide +kernel)) (fun _ h9 => h9) rfl dX5_errorPosition_1 ?_
  refine lv_iconst (v := (-1)) hx hb dX5_errorPosition_4 (by decide) ?_
  refine lv_icmp_ne (tgt := 19) hx hb dX5_errorPosition_5 (by decide) (fun c_5 => ?_) (fun c_5 => ?_)
  · have hf := hf.trans (if_neg c_5)
    refine lv_aload_n hx hb dX5_errorPosition_19 rfl (lv_at hl 0 rfl) ?_
    refine va_get (D := D) (ci := 6) (v := .int (og9 u)) (C := RX5) (T := TX5) (N := 10) hx hb hts hin hown hK hP 0 rfl rfl 7 (by decide) (hts (.fieldLink RX5 45 "HatReservations" "lastErrorPosition" "I") (by decide +kernel)) (fun _ h9 => h9) rfl dX5_errorPosition_20 ?_
    refine vx_ret (W.widen (k := 2) (n := 12) (Nat.le_of_ble_eq_true rfl) (Nat.le_of_ble_eq_true rfl) ?_)
    exact W.iret (v := og9 u) hx hb hr (fun t ht hW => ⟨⟨og9 u, u, rfl, hf.symm, by rw [ht]; exact hP, va_K.moved hW.alike hK, hD⟩, hS.F ht⟩) hS.2.2 dX5_errorPosition_23
  · have hf := hf.trans (if_pos c_5)
    exact thrNSEW (is := 316) (text := "no error position was set") hx hb hfl hown (hts (.classLink RX5 170 "java/util/NoSuchElementException") (by decide +kernel)) (hts (.initialized "java/util/NoSuchElementException") (by decide +kernel)) (fun w hw => hts w (List.mem_cons_of_mem _ (List.mem_append_right _ hw))) hX (by decide +kernel) hS (by rw [hml]; exact hl.1) dX5_errorPosition_8 dX5_errorPosition_11 dX5_errorPosition_12 dX5_errorPosition_15 dX5_errorPosition_18 hxt (Nat.le_of_ble_eq_true rfl) (Nat.le_of_ble_eq_true rfl) (Nat.le_of_ble_eq_true rfl) (Nat.le_of_ble_eq_true rfl) hlocks (fun t hAl h1 h2 => xc_T (w := u) (k := 1) 0 rfl rfl (by rw [hf]) hP hD hS h1 h2) hS.2.2 (Nat.le_of_ble_eq_true rfl) (Nat.le_of_ble_eq_true rfl)
def fX5_failedCommand (u : OS) : Nat × Int32 × OS :=
  (if (og10 u) = (-1) then (1, 0, u) else (0, og10 u, u))
set_option maxHeartbeats 4000000 in
set_option maxRecDepth 100000 in
/-- failedCommand -/
theorem kX5_failedCommand (l : Launch) (hfl : l.stackTraces = false) (D : va_G) (ca : Nat → ClassId) (en ks vs : Nat → Nat) (ai : Nat → Nat → Nat) (ad bd : Nat → Nat) (sz : Nat) (u : OS) (hoi : OI u) : HMet l yX5_failedCommand wsX5_failedCommand ({ frames := 6, cells := 2, slots := 12, locals := 82 }) D ca en ks vs ai ad bd sz u [.ref (ad 0)] ["java/util/NoSuchElementException"] (fX5_failedCommand u) := by
  unfold HMet
  refine vx_ofW (cc := cX5_failedCommand) (maxL := 1) (ret := (some .int)) (by decide) rfl ?_
  intro p e s m args below meth c s₁ B hml hxt hv
  obtain ⟨rfl, hsz, hP, hK, hD0, hX⟩ := hv
  have hx := B.exec
  have hb := B.bytes
  have hr := B.returns
  have hts := atoms_spec (ws := wsX5_failedCommand) B.pre
  have hown : s.vm.findClass RX5 = some m.cls := findClass_of_methodNamed B.named
  have hlocks := B.notSynchronized
  have hin5 : ∀ w ∈ wsX50, w ∈ wsX5_failedCommand := by decide +kernel
  have hin := hin5
  subst hsz
  have hD := hD0.self (sz := s.heap.size)
  generalize hAe : va_A (OW ca en ai ad bd u) s.heap.size = A at hD hX ⊢
  have hA : ∀ q : Nat, s.heap.size ≤ q → A q := fun q h => by rw [← hAe]; exact Or.inr h
  have hS : va_S A s.heap s.heap [] := va_S.rf
  have hf : fX5_failedCommand u = fX5_failedCommand u := rfl
  refine W_entry (Nat.le_of_ble_eq_true rfl) (fun ls hl => ?_)
  have hl : lv_has ls 1 [(0, .ref (ad 0))] := hl
  refine lv_aload_n hx hb dX5_failedCommand_0 rfl (lv_at hl 0 rfl) ?_
  refine va_get (D := D) (ci := 6) (v := .int (og10 u)) (C := RX5) (T := TX5) (N := 10) hx hb hts hin hown hK hP 0 rfl rfl 8 (by decide) (hts (.fieldLink RX5 48 "HatReservations" "lastFailedCommand" "I") (by decide +kernel)) (fun _ h9 => h9) rfl dX5_failedCommand_1 ?_
  refine lv_iconst (v := (-1)) hx hb dX5_failedCommand_4 (by decide) ?_
  refine lv_icmp_ne (tgt := 19) hx hb dX5_failedCommand_5 (by decide) (fun c_5 => ?_) (fun c_5 => ?_)
  · have hf := hf.trans (if_neg c_5)
    refine lv_aload_n hx hb dX5_failedCommand_19 rfl (lv_at hl 0 rfl) ?_
    refine va_get (D := D) (ci := 6) (v := .int (og10 u)) (C := RX5) (T := TX5) (N := 10) hx hb hts hin hown hK hP 0 rfl rfl 8 (by decide) (hts (.fieldLink RX5 48 "HatReservations" "lastFailedCommand" "I") (by decide +kernel)) (fun _ h9 => h9) rfl dX5_failedCommand_20 ?_
    refine vx_ret (W.widen (k := 2) (n := 12) (Nat.le_of_ble_eq_true rfl) (Nat.le_of_ble_eq_true rfl) ?_)
    exact W.iret (v := og10 u) hx hb hr (fun t ht hW => ⟨⟨og10 u, u, rfl, hf.symm, by rw [ht]; exact hP, va_K.moved hW.alike hK, hD⟩, hS.F ht⟩) hS.2.2 dX5_failedCommand_23
  · have hf := hf.trans (if_pos c_5)
    exact thrNSEW (is := 318) (text := "no command has failed") hx hb hfl hown (hts (.classLink RX5 170 "java/util/NoSuchElementException") (by decide +kernel)) (hts (.initialized "java/util/NoSuchElementException") (by decide +kernel)) (fun w hw => hts w (List.mem_cons_of_mem _ (List.mem_append_right _ hw))) hX (by decide +kernel) hS (by rw [hml]; exact hl.1) dX5_failedCommand_8 dX5_failedCommand_11 dX5_failedCommand_12 dX5_failedCommand_15 dX5_failedCommand_18 hxt (Nat.le_of_ble_eq_true rfl) (Nat.le_of_ble_eq_true rfl) (Nat.le_of_ble_eq_true rfl) (Nat.le_of_ble_eq_true rfl) hlocks (fun t hAl h1 h2 => xc_T (w := u) (k := 1) 0 rfl rfl (by rw [hf]) hP hD hS h1 h2) hS.2.2 (Nat.le_of_ble_eq_true rfl) (Nat.le_of_ble_eq_true rfl)
def fX5_failedException (u : OS) : Nat × Int32 × OS :=
  (if (og11 u) = (-1) then (1, 0, u) else (0, og11 u, u))
set_option maxHeartbeats 4000000 in
set_option maxRecDepth 100000 in
/-- failedException -/
theorem kX5_failedException (l : Launch) (hfl : l.stackTraces = false) (D : va_G) (ca : Nat → ClassId) (en ks vs : Nat → Nat) (ai : Nat → Nat → Nat) (ad bd : Nat → Nat) (sz : Nat) (u : OS) (hoi : OI u) : HMet l yX5_failedException wsX5_failedException ({ frames := 6, cells := 2, slots := 12, locals := 82 }) D ca en ks vs ai ad bd sz u [.ref (ad 0)] ["java/util/NoSuchElementException"] (fX5_failedException u) := by
  unfold HMet
  refine vx_ofW (cc := cX5_failedException) (maxL := 1) (ret := (some .int)) (by decide) rfl ?_
  intro p e s m args below meth c s₁ B hml hxt hv
  obtain ⟨rfl, hsz, hP, hK, hD0, hX⟩ := hv
  have hx := B.exec
  have hb := B.bytes
  have hr := B.returns
  have hts := atoms_spec (ws := wsX5_failedException) B.pre
  have hown : s.vm.findClass RX5 = some m.cls := findClass_of_methodNamed B.named
  have hlocks := B.notSynchronized
  have hin5 : ∀ w ∈ wsX50, w ∈ wsX5_failedException := by decide +kernel
  have hin := hin5
  subst hsz
  have hD := hD0.self (sz := s.heap.size)
  generalize hAe : va_A (OW ca en ai ad bd u) s.heap.size = A at hD hX ⊢
  have hA : ∀ q : Nat, s.heap.size ≤ q → A q := fun q h => by rw [← hAe]; exact Or.inr h
  have hS : va_S A s.heap s.heap [] := va_S.rf
  have hf : fX5_failedException u = fX5_failedException u := rfl
  refine W_entry (Nat.le_of_ble_eq_true rfl) (fun ls hl => ?_)
  have hl : lv_has ls 1 [(0, .ref (ad 0))] := hl
  refine lv_aload_n hx hb dX5_failedException_0 rfl (lv_at hl 0 rfl) ?_
  refine va_get (D := D) (ci := 6) (v := .int (og11 u)) (C := RX5) (T := TX5) (N := 10) hx hb hts hin hown hK hP 0 rfl rfl 9 (by decide) (hts (.fieldLink RX5 51 "HatReservations" "lastFailedException" "I") (by decide +kernel)) (fun _ h9 => h9) rfl dX5_failedException_1 ?_
  refine lv_iconst (v := (-1)) hx hb dX5_failedException_4 (by decide) ?_
  refine lv_icmp_ne (tgt := 19) hx hb dX5_failedException_5 (by decide) (fun c_5 => ?_) (fun c_5 => ?_)
  · have hf := hf.trans (if_neg c_5)
    refine lv_aload_n hx hb dX5_failedException_19 rfl (lv_at hl 0 rfl) ?_
    refine va_get (D := D) (ci := 6) (v := .int (og11 u)) (C := RX5) (T := TX5) (N := 10) hx hb hts hin hown hK hP 0 rfl rfl 9 (by decide) (hts (.fieldLink RX5 51 "HatReservations" "lastFailedException" "I") (by decide +kernel)) (fun _ h9 => h9) rfl dX5_failedException_20 ?_
    refine vx_ret (W.widen (k := 2) (n := 12) (Nat.le_of_ble_eq_true rfl) (Nat.le_of_ble_eq_true rfl) ?_)
    exact W.iret (v := og11 u) hx hb hr (fun t ht hW => ⟨⟨og11 u, u, rfl, hf.symm, by rw [ht]; exact hP, va_K.moved hW.alike hK, hD⟩, hS.F ht⟩) hS.2.2 dX5_failedException_23
  · have hf := hf.trans (if_pos c_5)
    exact thrNSEW (is := 318) (text := "no command has failed") hx hb hfl hown (hts (.classLink RX5 170 "java/util/NoSuchElementException") (by decide +kernel)) (hts (.initialized "java/util/NoSuchElementException") (by decide +kernel)) (fun w hw => hts w (List.mem_cons_of_mem _ (List.mem_append_right _ hw))) hX (by decide +kernel) hS (by rw [hml]; exact hl.1) dX5_failedException_8 dX5_failedException_11 dX5_failedException_12 dX5_failedException_15 dX5_failedException_18 hxt (Nat.le_of_ble_eq_true rfl) (Nat.le_of_ble_eq_true rfl) (Nat.le_of_ble_eq_true rfl) (Nat.le_of_ble_eq_true rfl) hlocks (fun t hAl h1 h2 => xc_T (w := u) (k := 1) 0 rfl rfl (by rw [hf]) hP hD hS h1 h2) hS.2.2 (Nat.le_of_ble_eq_true rfl) (Nat.le_of_ble_eq_true rfl)
def fX5_describeRow (u : OS) (x1 : Int32) : Nat × Int32 × OS :=
  (if fX5_requireRow x1 = 0 then (0, 0, u) else (fX5_requireRow x1, 0, u))
set_option maxHeartbeats 4000000 in
set_option maxRecDepth 100000 in
/-- describeRow -/
theorem kX5_describeRow (l : Launch) (hfl : l.stackTraces = false) (D : va_G) (ca : Nat → ClassId) (en ks vs : Nat → Nat) (ai : Nat → Nat → Nat) (ad bd : Nat → Nat) (sz : Nat) (u : OS) (x1 : Int32) (hoi : OI u) (hdead : ¬ fX5_requireRow x1 = 0) : HMet l yX5_describeRow wsX5_describeRow ({ frames := 7, cells := 2, slots := 12, locals := 102 }) D ca en ks vs ai ad bd sz u [.ref (ad 0), .int x1] ["java/lang/IndexOutOfBoundsException"] (fX5_describeRow u x1) := by
  unfold HMet
  refine vx_ofW (cc := cX5_describeRow) (maxL := 3) (ret := (some .int)) (by decide) rfl ?_
  intro p e s m args below meth c s₁ B hml hxt hv
  obtain ⟨rfl, hsz, hP, hK, hD0, hX⟩ := hv
  have hx := B.exec
  have hb := B.bytes
  have hr := B.returns
  have hts := atoms_spec (ws := wsX5_describeRow) B.pre
  have hown : s.vm.findClass RX5 = some m.cls := findClass_of_methodNamed B.named
  have hlocks := B.notSynchronized
  have hin5 : ∀ w ∈ wsX50, w ∈ wsX5_describeRow := by decide +kernel
  have hin3 : ∀ w ∈ wsX30, w ∈ wsX5_describeRow := by decide +kernel
  have hin := hin5
  subst hsz
  have hD := hD0.self (sz := s.heap.size)
  generalize hAe : va_A (OW ca en ai ad bd u) s.heap.size = A at hD hX ⊢
  have hA : ∀ q : Nat, s.heap.size ≤ q → A q := fun q h => by rw [← hAe]; exact Or.inr h
  have hS : va_S A s.heap s.heap [] := va_S.rf
  have hf : fX5_describeRow u x1 = fX5_describeRow u x1 := rfl
  refine W_entry (Nat.le_of_ble_eq_true rfl) (fun ls hl => ?_)
  have hl : lv_has ls 3 [(0, .ref (ad 0)), (1, .int x1)] := hl
  refine lv_iload_n hx hb dX5_describeRow_0 rfl (lv_at hl 1 rfl) ?_
  refine hcCSv (names := ["java/lang/IndexOutOfBoundsException"]) (k := fX5_requireRow x1) (As := [.int x1]) (rest := []) (HX_ok en ks vs) ⟨hx, hb, hml, hown, hts⟩ (kX5_requireRow l hfl D ca en ks vs _ x1) (va_cwS 1 hts gX5_describeRow_X5_requireRow rfl rfl rfl (by decide +kernel) ⟨Nat.le_of_ble_eq_true rfl, Nat.le_of_ble_eq_true rfl⟩) hK hP hD hS hA hX rfl hl.1 rfl (Nat.le_of_ble_eq_true rfl) ⟨(Nat.le_of_ble_eq_true rfl), (Nat.le_of_ble_eq_true rfl)⟩ dX5_describeRow_1 (fun i E9 ce q9 H locs hi hk9 hP hD hS h5 h6 h7 => ?_) (fun H locs z_1 hP hD hS => ?_)
  · have hf := hf.trans (if_neg (show ¬ fX5_requireRow x1 = 0 by rw [hk9]; exact Nat.succ_ne_zero i))
    exact vx_out (fun x h => (hxt x h).elim) hlocks h5 h6 h7 (xc_o (w := u) i (pre_get (m := []) hi) hk9 (by rw [hf]) hP hD hS) hS.2.2 (Nat.le_of_ble_eq_true rfl) (Nat.le_of_ble_eq_true rfl)
  · exact absurd z_1 hdead
def fX5_lineAt (u : OS) (x1 : Int32) : Nat × Int32 × OS :=
  (if x1 < 0 then (1, 0, u) else (if x1 < (nI (og7 u)) then (0, 0, u) else (1, 0, u)))
set_option maxHeartbeats 4000000 in
set_option maxRecDepth 100000 in
/-- lineAt -/
theorem kX5_lineAt (l : Launch) (hfl : l.stackTraces = false) (D : va_G) (ca : Nat → ClassId) (en ks vs : Nat → Nat) (ai : Nat → Nat → Nat) (ad bd : Nat → Nat) (sz : Nat) (u : OS) (x1 : Int32) (hoi : OI u) (hdead : ¬ x1 < nI (og7 u)) : HMet l yX5_lineAt wsX5_lineAt ({ frames := 6, cells := 2, slots := 12, locals := 82 }) D ca en ks vs ai ad bd sz u [.ref (ad 0), .int x1] ["java/lang/IndexOutOfBoundsException"] (fX5_lineAt u x1) := by
  unfold HMet
  refine vx_ofW (cc := cX5_lineAt) (maxL := 2) (ret := (some .char)) (by decide) rfl ?_
  intro p e s m args below meth c s₁ B hml hxt hv
  obtain ⟨rfl, hsz, hP, hK, hD0, hX⟩ := hv
  have hx := B.exec
  have hb := B.bytes
  have hr := B.returns
  have hts := atoms_spec (ws := wsX5_lineAt) B.pre
  have hown : s.vm.findClass RX5 = some m.cls := findClass_of_methodNamed B.named
  have hlocks := B.notSynchronized
  have hin5 : ∀ w ∈ wsX50, w ∈ wsX5_lineAt := by decide +kernel
  have hin := hin5
  subst hsz
  have hD := hD0.self (sz := s.heap.size)
  generalize hAe : va_A (OW ca en ai ad bd u) s.heap.size = A at hD hX ⊢
  have hA : ∀ q : Nat, s.heap.size ≤ q → A q := fun q h => by rw [← hAe]; exact Or.inr h
  have hS : va_S A s.heap s.heap [] := va_S.rf
  have hf : fX5_lineAt u x1 = fX5_lineAt u x1 := rfl
  refine W_entry (Nat.le_of_ble_eq_true rfl) (fun ls hl => ?_)
  have hl : lv_has ls 2 [(0, .ref (ad 0)), (1, .int x1)] := hl
  refine lv_iload_n hx hb dX5_lineAt_0 rfl (lv_at hl 1 rfl) ?_
  refine lv_if_lt (tgt := 12) hx hb dX5_lineAt_1 (by decide) (fun c_1 => ?_) (fun c_1 => ?_)
  · have hf := hf.trans (if_pos c_1)
    exact thrIOBW (is := 324) (text := "no such index") hx hb hfl hown (hts (.classLink RX5 81 "java/lang/IndexOutOfBoundsException") (by decide +kernel)) (hts (.initialized "java/lang/IndexOutOfBoundsException") (by decide +kernel)) (fun w hw => hts w (List.mem_cons_of_mem _ (List.mem_append_left _ (List.mem_append_right _ hw)))) hX (by decide +kernel) hS (by rw [hml]; exact hl.1) dX5_lineAt_12 dX5_lineAt_15 dX5_lineAt_16 dX5_lineAt_19 dX5_lineAt_22 hxt (Nat.le_of_ble_eq_true rfl) (Nat.le_of_ble_eq_true rfl) (Nat.le_of_ble_eq_true rfl) (Nat.le_of_ble_eq_true rfl) hlocks (fun t hAl h1 h2 => xc_T (w := u) (k := 1) 0 rfl rfl (by rw [hf]) hP hD hS h1 h2) hS.2.2 (Nat.le_of_ble_eq_true rfl) (Nat.le_of_ble_eq_true rfl)
  · have hf := hf.trans (if_neg c_1)
    refine lv_iload_n hx hb dX5_lineAt_4 rfl (lv_at hl 1 rfl) ?_
    refine lv_aload_n hx hb dX5_lineAt_5 rfl (lv_at hl 0 rfl) ?_
    refine va_get (D := D) (ci := 6) (v := .int (nI (og7 u))) (C := RX5) (T := TX5) (N := 10) hx hb hts hin hown hK hP 0 rfl rfl 5 (by decide) (hts (.fieldLink RX5 37 "HatReservations" "lineLength" "I") (by decide +kernel)) (fun _ h9 => h9) rfl dX5_lineAt_6 ?_
    refine lv_icmp_lt (tgt := 23) hx hb dX5_lineAt_9 (by decide) (fun c_9 => ?_) (fun c_9 => ?_)
    · exact absurd c_9 hdead
    · have hf := hf.trans (if_neg c_9)
      exact thrIOBW (is := 324) (text := "no such index") hx hb hfl hown (hts (.classLink RX5 81 "java/lang/IndexOutOfBoundsException") (by decide +kernel)) (hts (.initialized "java/lang/IndexOutOfBoundsException") (by decide +kernel)) (fun w hw => hts w (List.mem_cons_of_mem _ (List.mem_append_left _ (List.mem_append_right _ hw)))) hX (by decide +kernel) hS (by rw [hml]; exact hl.1) dX5_lineAt_12 dX5_lineAt_15 dX5_lineAt_16 dX5_lineAt_19 dX5_lineAt_22 hxt (Nat.le_of_ble_eq_true rfl) (Nat.le_of_ble_eq_true rfl) (Nat.le_of_ble_eq_true rfl) (Nat.le_of_ble_eq_true rfl) hlocks (fun t hAl h1 h2 => xc_T (w := u) (k := 1) 0 rfl rfl (by rw [hf]) hP hD hS h1 h2) hS.2.2 (Nat.le_of_ble_eq_true rfl) (Nat.le_of_ble_eq_true rfl)
