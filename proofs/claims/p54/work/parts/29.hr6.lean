/-! the object's methods, on -/
def fX5_contest (u : OS) (x1 : Int32) (x2 : Int32) : Nat × Int32 × OS :=
  (if (fX3_refusalOfContest (og0 u) x1 x2) = 1 then (1, 0, u) else (if (fX3_refusalOfContest (og0 u) x1 x2) = 2 then (2, 0, u) else (if (fX3_refusalOfContest (og0 u) x1 x2) = 0 then (0, (fX3_fightFor (og0 (remO u)) x1 x2).1, os0 (fX3_fightFor (og0 (remO u)) x1 x2).2 (remO u)) else (3, 0, u))))
set_option maxHeartbeats 4000000 in
set_option maxRecDepth 100000 in
/-- contest -/
theorem kX5_contest (l : Launch) (hfl : l.stackTraces = false) (D : va_G) (ca : Nat → ClassId) (en ks vs : Nat → Nat) (ai : Nat → Nat → Nat) (ad bd : Nat → Nat) (sz : Nat) (u : OS) (x1 : Int32) (x2 : Int32) (hoi : OI u) : HMet l yX5_contest wsX5_contest ({ frames := 6, cells := 2, slots := 12, locals := 126 }) D ca en ks vs ai ad bd sz u [.ref (ad 0), .int x1, .int x2] ["java/lang/IndexOutOfBoundsException", "java/util/NoSuchElementException", "java/lang/IllegalStateException"] (fX5_contest u x1 x2) := by
  unfold HMet
  refine vx_ofW (cc := cX5_contest) (maxL := 4) (ret := (some .boolean)) (by decide) rfl ?_
  intro p e s m args below meth c s₁ B hml hxt hv
  obtain ⟨rfl, hsz, hP, hK, hD0, hX⟩ := hv
  have hx := B.exec
  have hb := B.bytes
  have hr := B.returns
  have hts := atoms_spec (ws := wsX5_contest) B.pre
  have hown : s.vm.findClass RX5 = some m.cls := findClass_of_methodNamed B.named
  have hlocks := B.notSynchronized
  have hin5 : ∀ w ∈ wsX50, w ∈ wsX5_contest := by decide +kernel
  have hin3 : ∀ w ∈ wsX30, w ∈ wsX5_contest := by decide +kernel
  have hin4 : ∀ w ∈ wsX40, w ∈ wsX5_contest := by decide +kernel
  have hin := hin5
  subst hsz
  have hD := hD0.self (sz := s.heap.size)
  generalize hAe : va_A (OW ca en ai ad bd u) s.heap.size = A at hD hX ⊢
  have hA : ∀ q : Nat, s.heap.size ≤ q → A q := fun q h => by rw [← hAe]; exact Or.inr h
  have hS : va_S A s.heap s.heap [] := va_S.rf
  have hf : fX5_contest u x1 x2 = fX5_contest u x1 x2 := rfl
  refine W_entry (Nat.le_of_ble_eq_true rfl) (fun ls hl => ?_)
  have hl : lv_has ls 4 [(0, .ref (ad 0)), (1, .int x1), (2, .int x2)] := hl
  refine lv_aload_n hx hb dX5_contest_0 rfl (lv_at hl 0 rfl) ?_
  refine va_get (D := D) (ci := 6) (v := .ref (ai 9 8)) (C := RX5) (T := TX5) (N := 10) hx hb hts hin hown hK hP 0 rfl rfl 0 (by decide) (hts (.fieldLink RX5 10 "HatReservations" "hall" "LHatReservations$Hall;") (by decide +kernel)) (fun _ h9 => h9) rfl dX5_contest_1 ?_
  refine lv_iload_n hx hb dX5_contest_4 rfl (lv_at hl 1 rfl) ?_
  refine lv_iload_n hx hb dX5_contest_5 rfl (lv_at hl 2 rfl) ?_
  refine hcRi (As := [.int x1, .int x2]) (rest := []) 0 4 ⟨hx, hb, hml, hown, hts⟩ (kX3_refusalOfContest l D ca (ai 9) (og0 u) x1 x2 hoi.1.2) (cwV 2 hts gX5_contest_X3_refusalOfContest rfl rfl rfl (by decide +kernel) ⟨Nat.le_of_ble_eq_true rfl, Nat.le_of_ble_eq_true rfl⟩) hK (OP_hall hP) rfl rfl rfl hl.1 rfl (Nat.le_of_ble_eq_true rfl) ⟨Nat.le_of_ble_eq_true rfl, Nat.le_of_ble_eq_true rfl⟩ dX5_contest_6 ?_
  refine lv_istore_n (lv' := [(3, .int (fX3_refusalOfContest (og0 u) x1 x2)), (0, .ref (ad 0)), (1, .int x1), (2, .int x2)]) hx hb dX5_contest_9 rfl hl (by decide) rfl (fun ls hl => ?_)
  refine lv_iload_n hx hb dX5_contest_10 rfl (lv_at hl 0 rfl) ?_
  refine lv_iconst (v := 1) hx hb dX5_contest_11 (by decide) ?_
  refine lv_icmp_ne (tgt := 25) hx hb dX5_contest_12 (by decide) (fun c_12 => ?_) (fun c_12 => ?_)
  · have hf := hf.trans (if_neg c_12)
    refine lv_iload_n hx hb dX5_contest_25 rfl (lv_at hl 0 rfl) ?_
    refine lv_iconst (v := 2) hx hb dX5_contest_26 (by decide) ?_
    refine lv_icmp_ne (tgt := 40) hx hb dX5_contest_27 (by decide) (fun c_27 => ?_) (fun c_27 => ?_)
    · have hf := hf.trans (if_neg c_27)
      refine lv_iload_n hx hb dX5_contest_40 rfl (lv_at hl 0 rfl) ?_
      refine lv_if_eq (tgt := 54) hx hb dX5_contest_41 (by decide) (fun c_41 => ?_) (fun c_41 => ?_)
      · have hf := hf.trans (if_pos c_41)
        refine lv_aload_n hx hb dX5_contest_54 rfl (lv_at hl 1 rfl) ?_
        refine va_get (D := D) (ci := 6) (v := .ref (ad 1)) (C := RX5) (T := TX5) (N := 10) hx hb hts hin hown hK hP 0 rfl rfl 2 (by decide) (hts (.fieldLink RX5 22 "HatReservations" "history" "LHatReservations$History;") (by decide +kernel)) (fun _ h9 => h9) rfl dX5_contest_55 ?_
        refine lv_aload_n hx hb dX5_contest_58 rfl (lv_at hl 1 rfl) ?_
        refine va_get (D := D) (ci := 6) (v := .ref (ai 9 8)) (C := RX5) (T := TX5) (N := 10) hx hb hts hin hown hK hP 0 rfl rfl 0 (by decide) (hts (.fieldLink RX5 10 "HatReservations" "hall" "LHatReservations$Hall;") (by decide +kernel)) (fun _ h9 => h9) rfl dX5_contest_59 ?_
        refine hcMv (As := [.ref (ai 9 8)]) (rest := []) (wr := OR3 ca en ai ad bd u) (f := fun z => HHW ca ai ad z) (F := fX4_remember (oH u)) 0 5 ⟨hx, hb, hml, hown, hts⟩ (kX4_remember l D ca ai ad _ (oH u) hoi.2.2.2.1 hoi.2.2.2.2.1) (cwV 1 hts gX5_contest_X4_remember rfl rfl rfl (by decide +kernel) ⟨Nat.le_of_ble_eq_true rfl, Nat.le_of_ble_eq_true rfl⟩) hK hP hD hS hA OP3 rfl rfl rfl hl.1 rfl (Nat.le_of_ble_eq_true rfl) ⟨Nat.le_of_ble_eq_true rfl, Nat.le_of_ble_eq_true rfl⟩ dX5_contest_62 (fun H locs hP hD hS => ?_)
        have hP : va_P D vwCl (OW ca en ai ad bd (remO u)) H := P_perm (OP3 (w := (remO u))).symm hP
        have hD : va_D A (OW ca en ai ad bd (remO u)) := D_perm (OP3 (w := (remO u))).symm hD
        refine lv_aload_n hx hb dX5_contest_65 rfl (lv_at hl 1 rfl) ?_
        refine va_get (D := D) (ci := 6) (v := .ref (ai 9 8)) (C := RX5) (T := TX5) (N := 10) hx hb hts hin hown hK hP 0 rfl rfl 0 (by decide) (hts (.fieldLink RX5 10 "HatReservations" "hall" "LHatReservations$Hall;") (by decide +kernel)) (fun _ h9 => h9) rfl dX5_contest_66 ?_
        refine lv_iload_n hx hb dX5_contest_69 rfl (lv_at hl 2 rfl) ?_
        refine lv_iload_n hx hb dX5_contest_70 rfl (lv_at hl 3 rfl) ?_
        refine hcMi (As := [.int x1, .int x2]) (rest := []) (wr := OR1 ca en ai ad bd (remO u)) (f := HW ca (ai 9)) (F := fX3_fightFor (og0 (remO u)) x1 x2) 0 4 ⟨hx, hb, hml, hown, hts⟩ (kX3_fightFor l D ca (ai 9) _ (og0 (remO u)) x1 x2 (contest_ok hoi.1.2 c_41).1 (contest_ok hoi.1.2 c_41).2) (cwV 2 hts gX5_contest_X3_fightFor rfl rfl rfl (by decide +kernel) ⟨Nat.le_of_ble_eq_true rfl, Nat.le_of_ble_eq_true rfl⟩) hK hP hD hS hA OP1 rfl rfl rfl hl.1 rfl (Nat.le_of_ble_eq_true rfl) ⟨Nat.le_of_ble_eq_true rfl, Nat.le_of_ble_eq_true rfl⟩ dX5_contest_71 (fun H locs hP hD hS => ?_)
        have hP : va_P D vwCl (OW ca en ai ad bd (os0 (fX3_fightFor (og0 (remO u)) x1 x2).2 (remO u))) H := P_perm (OP1 (w := (os0 (fX3_fightFor (og0 (remO u)) x1 x2).2 (remO u)))).symm hP
        have hD : va_D A (OW ca en ai ad bd (os0 (fX3_fightFor (og0 (remO u)) x1 x2).2 (remO u))) := D_perm (OP1 (w := (os0 (fX3_fightFor (og0 (remO u)) x1 x2).2 (remO u)))).symm hD
        refine vx_ret (W.widen (k := 2) (n := 12) (Nat.le_of_ble_eq_true rfl) (Nat.le_of_ble_eq_true rfl) ?_)
        exact W.zret (ty := .boolean) (v := (fX3_fightFor (og0 (remO u)) x1 x2).1) hx hb hr nar_ff (fun t ht hW => ⟨⟨(fX3_fightFor (og0 (remO u)) x1 x2).1, (os0 (fX3_fightFor (og0 (remO u)) x1 x2).2 (remO u)), rfl, hf.symm, by rw [ht]; exact hP, va_K.moved hW.alike hK, hD⟩, hS.F ht⟩) hS.2.2 dX5_contest_74
      · have hf := hf.trans (if_neg c_41)
        exact thrISE (is := 96) (text := "the hat of the guest is placed") hx hb hfl hown (hts (.classLink RX5 65 "java/lang/IllegalStateException") (by decide +kernel)) (hts (.initialized "java/lang/IllegalStateException") (by decide +kernel)) (fun w hw => hts w (List.mem_cons_of_mem _ (List.mem_append_left _ (List.mem_append_right _ hw)))) hX (by decide +kernel) hS (by rw [hml]; exact hl.1) dX5_contest_44 dX5_contest_47 dX5_contest_48 dX5_contest_50 dX5_contest_53 hxt (Nat.le_of_ble_eq_true rfl) (Nat.le_of_ble_eq_true rfl) (Nat.le_of_ble_eq_true rfl) (Nat.le_of_ble_eq_true rfl) hlocks (fun t hAl h1 h2 => xc_T (w := u) (k := 3) 2 rfl rfl (by rw [hf]) hP hD hS h1 h2) hS.2.2 (Nat.le_of_ble_eq_true rfl) (Nat.le_of_ble_eq_true rfl)
    · have hf := hf.trans (if_pos c_27)
      exact thrNSE (is := 186) (text := "the chair is not covered") hx hb hfl hown (hts (.classLink RX5 170 "java/util/NoSuchElementException") (by decide +kernel)) (hts (.initialized "java/util/NoSuchElementException") (by decide +kernel)) (fun w hw => hts w (List.mem_cons_of_mem _ (List.mem_append_left _ (List.mem_append_left _ (List.mem_append_right _ hw))))) hX (by decide +kernel) hS (by rw [hml]; exact hl.1) dX5_contest_30 dX5_contest_33 dX5_contest_34 dX5_contest_36 dX5_contest_39 hxt (Nat.le_of_ble_eq_true rfl) (Nat.le_of_ble_eq_true rfl) (Nat.le_of_ble_eq_true rfl) (Nat.le_of_ble_eq_true rfl) hlocks (fun t hAl h1 h2 => xc_T (w := u) (k := 2) 1 rfl rfl (by rw [hf]) hP hD hS h1 h2) hS.2.2 (Nat.le_of_ble_eq_true rfl) (Nat.le_of_ble_eq_true rfl)
  · have hf := hf.trans (if_pos c_12)
    exact thrIOB (is := 94) (text := "no such guest or chair") hx hb hfl hown (hts (.classLink RX5 81 "java/lang/IndexOutOfBoundsException") (by decide +kernel)) (hts (.initialized "java/lang/IndexOutOfBoundsException") (by decide +kernel)) (fun w hw => hts w (List.mem_cons_of_mem _ (List.mem_append_left _ (List.mem_append_left _ (List.mem_append_left _ (List.mem_append_right _ hw)))))) hX (by decide +kernel) hS (by rw [hml]; exact hl.1) dX5_contest_15 dX5_contest_18 dX5_contest_19 dX5_contest_21 dX5_contest_24 hxt (Nat.le_of_ble_eq_true rfl) (Nat.le_of_ble_eq_true rfl) (Nat.le_of_ble_eq_true rfl) (Nat.le_of_ble_eq_true rfl) hlocks (fun t hAl h1 h2 => xc_T (w := u) (k := 1) 0 rfl rfl (by rw [hf]) hP hD hS h1 h2) hS.2.2 (Nat.le_of_ble_eq_true rfl) (Nat.le_of_ble_eq_true rfl)
def fX5_wouldWin (u : OS) (x1 : Int32) (x2 : Int32) : Nat × Int32 × OS :=
  (if (fX3_refusalOfContest (og0 u) x1 x2) = 1 then (1, 0, u) else (0, 0, u))
set_option maxHeartbeats 4000000 in
set_option maxRecDepth 100000 in
/-- wouldWin -/
theorem kX5_wouldWin (l : Launch) (hfl : l.stackTraces = false) (D : va_G) (ca : Nat → ClassId) (en ks vs : Nat → Nat) (ai : Nat → Nat → Nat) (ad bd : Nat → Nat) (sz : Nat) (u : OS) (x1 : Int32) (x2 : Int32) (hoi : OI u) (hdead : fX3_refusalOfContest (og0 u) x1 x2 = 1) : HMet l yX5_wouldWin wsX5_wouldWin ({ frames := 6, cells := 2, slots := 12, locals := 82 }) D ca en ks vs ai ad bd sz u [.ref (ad 0), .int x1, .int x2] ["java/lang/IndexOutOfBoundsException"] (fX5_wouldWin u x1 x2) := by
  unfold HMet
  refine vx_ofW (cc := cX5_wouldWin) (maxL := 4) (ret := (some .boolean)) (by decide) rfl ?_
  intro p e s m args below meth c s₁ B hml hxt hv
  obtain ⟨rfl, hsz, hP, hK, hD0, hX⟩ := hv
  have hx := B.exec
  have hb := B.bytes
  have hr := B.returns
  have hts := atoms_spec (ws := wsX5_wouldWin) B.pre
  have hown : s.vm.findClass RX5 = some m.cls := findClass_of_methodNamed B.named
  have hlocks := B.notSynchronized
  have hin5 : ∀ w ∈ wsX50, w ∈ wsX5_wouldWin := by decide +kernel
  have hin3 : ∀ w ∈ wsX30, w ∈ wsX5_wouldWin := by decide +kernel
  have hin := hin5
  subst hsz
  have hD := hD0.self (sz := s.heap.size)
  generalize hAe : va_A (OW ca en ai ad bd u) s.heap.size = A at hD hX ⊢
  have hA : ∀ q : Nat, s.heap.size ≤ q → A q := fun q h => by rw [← hAe]; exact Or.inr h
  have hS : va_S A s.heap s.heap [] := va_S.rf
  have hf : fX5_wouldWin u x1 x2 = fX5_wouldWin u x1 x2 := rfl
  refine W_entry (Nat.le_of_ble_eq_true rfl) (fun ls hl => ?_)
  have hl : lv_has ls 4 [(0, .ref (ad 0)), (1, .int x1), (2, .int x2)] := hl
  refine lv_aload_n hx hb dX5_wouldWin_0 rfl (lv_at hl 0 rfl) ?_
  refine va_get (D := D) (ci := 6) (v := .ref (ai 9 8)) (C := RX5) (T := TX5) (N := 10) hx hb hts hin hown hK hP 0 rfl rfl 0 (by decide) (hts (.fieldLink RX5 10 "HatReservations" "hall" "LHatReservations$Hall;") (by decide +kernel)) (fun _ h9 => h9) rfl dX5_wouldWin_1 ?_
  refine lv_iload_n hx hb dX5_wouldWin_4 rfl (lv_at hl 1 rfl) ?_
  refine lv_iload_n hx hb dX5_wouldWin_5 rfl (lv_at hl 2 rfl) ?_
  refine hcRi (As := [.int x1, .int x2]) (rest := []) 0 4 ⟨hx, hb, hml, hown, hts⟩ (kX3_refusalOfContest l D ca (ai 9) (og0 u) x1 x2 hoi.1.2) (cwV 2 hts gX5_wouldWin_X3_refusalOfContest rfl rfl rfl (by decide +kernel) ⟨Nat.le_of_ble_eq_true rfl, Nat.le_of_ble_eq_true rfl⟩) hK (OP_hall hP) rfl rfl rfl hl.1 rfl (Nat.le_of_ble_eq_true rfl) ⟨Nat.le_of_ble_eq_true rfl, Nat.le_of_ble_eq_true rfl⟩ dX5_wouldWin_6 ?_
  refine lv_istore_n (lv' := [(3, .int (fX3_refusalOfContest (og0 u) x1 x2)), (0, .ref (ad 0)), (1, .int x1), (2, .int x2)]) hx hb dX5_wouldWin_9 rfl hl (by decide) rfl (fun ls hl => ?_)
  refine lv_iload_n hx hb dX5_wouldWin_10 rfl (lv_at hl 0 rfl) ?_
  refine lv_iconst (v := 1) hx hb dX5_wouldWin_11 (by decide) ?_
  refine lv_icmp_ne (tgt := 25) hx hb dX5_wouldWin_12 (by decide) (fun c_12 => ?_) (fun c_12 => ?_)
  · exact absurd hdead c_12
  · have hf := hf.trans (if_pos c_12)
    exact thrIOB (is := 94) (text := "no such guest or chair") hx hb hfl hown (hts (.classLink RX5 81 "java/lang/IndexOutOfBoundsException") (by decide +kernel)) (hts (.initialized "java/lang/IndexOutOfBoundsException") (by decide +kernel)) (fun w hw => hts w (List.mem_cons_of_mem _ (List.mem_append_left _ (List.mem_append_right _ hw)))) hX (by decide +kernel) hS (by rw [hml]; exact hl.1) dX5_wouldWin_15 dX5_wouldWin_18 dX5_wouldWin_19 dX5_wouldWin_21 dX5_wouldWin_24 hxt (Nat.le_of_ble_eq_true rfl) (Nat.le_of_ble_eq_true rfl) (Nat.le_of_ble_eq_true rfl) (Nat.le_of_ble_eq_true rfl) hlocks (fun t hAl h1 h2 => xc_T (w := u) (k := 1) 0 rfl rfl (by rw [hf]) hP hD hS h1 h2) hS.2.2 (Nat.le_of_ble_eq_true rfl) (Nat.le_of_ble_eq_true rfl)
def fX5_pass (u : OS) (x1 : Int32) : Nat × Int32 × OS :=
  (if (fX3_refusalOfPass (og0 u) x1) = 0 then (0, (fX3_letPass (og0 (remO u)) x1).1, os0 (fX3_letPass (og0 (remO u)) x1).2 (remO u)) else (1, 0, u))
set_option maxHeartbeats 4000000 in
set_option maxRecDepth 100000 in
/-- pass -/
theorem kX5_pass (l : Launch) (hfl : l.stackTraces = false) (D : va_G) (ca : Nat → ClassId) (en ks vs : Nat → Nat) (ai : Nat → Nat → Nat) (ad bd : Nat → Nat) (sz : Nat) (u : OS) (x1 : Int32) (hoi : OI u) : HMet l yX5_pass wsX5_pass ({ frames := 6, cells := 2, slots := 12, locals := 82 }) D ca en ks vs ai ad bd sz u [.ref (ad 0), .int x1] ["java/lang/IllegalArgumentException"] (fX5_pass u x1) := by
  unfold HMet
  refine vx_ofW (cc := cX5_pass) (maxL := 2) (ret := (some .int)) (by decide) rfl ?_
  intro p e s m args below meth c s₁ B hml hxt hv
  obtain ⟨rfl, hsz, hP, hK, hD0, hX⟩ := hv
  have hx := B.exec
  have hb := B.bytes
  have hr := B.returns
  have hts := atoms_spec (ws := wsX5_pass) B.pre
  have hown : s.vm.findClass RX5 = some m.cls := findClass_of_methodNamed B.named
  have hlocks := B.notSynchronized
  have hin5 : ∀ w ∈ wsX50, w ∈ wsX5_pass := by decide +kernel
  have hin3 : ∀ w ∈ wsX30, w ∈ wsX5_pass := by decide +kernel
  have hin4 : ∀ w ∈ wsX40, w ∈ wsX5_pass := by decide +kernel
  have hin := hin5
  subst hsz
  have hD := hD0.self (sz := s.heap.size)
  generalize hAe : va_A (OW ca en ai ad bd u) s.heap.size = A at hD hX ⊢
  have hA : ∀ q : Nat, s.heap.size ≤ q → A q := fun q h => by rw [← hAe]; exact Or.inr h
  have hS : va_S A s.heap s.heap [] := va_S.rf
  have hf : fX5_pass u x1 = fX5_pass u x1 := rfl
  refine W_entry (Nat.le_of_ble_eq_true rfl) (fun ls hl => ?_)
  have hl : lv_has ls 2 [(0, .ref (ad 0)), (1, .int x1)] := hl
  refine lv_aload_n hx hb dX5_pass_0 rfl (lv_at hl 0 rfl) ?_
  refine va_get (D := D) (ci := 6) (v := .ref (ai 9 8)) (C := RX5) (T := TX5) (N := 10) hx hb hts hin hown hK hP 0 rfl rfl 0 (by decide) (hts (.fieldLink RX5 10 "HatReservations" "hall" "LHatReservations$Hall;") (by decide +kernel)) (fun _ h9 => h9) rfl dX5_pass_1 ?_
  refine lv_iload_n hx hb dX5_pass_4 rfl (lv_at hl 1 rfl) ?_
  refine hcRi (As := [.int x1]) (rest := []) 0 4 ⟨hx, hb, hml, hown, hts⟩ (kX3_refusalOfPass l D ca (ai 9) (og0 u) x1 ) (cwV 1 hts gX5_pass_X3_refusalOfPass rfl rfl rfl (by decide +kernel) ⟨Nat.le_of_ble_eq_true rfl, Nat.le_of_ble_eq_true rfl⟩) hK (OP_hall hP) rfl rfl rfl hl.1 rfl (Nat.le_of_ble_eq_true rfl) ⟨Nat.le_of_ble_eq_true rfl, Nat.le_of_ble_eq_true rfl⟩ dX5_pass_5 ?_
  refine lv_if_eq (tgt := 21) hx hb dX5_pass_8 (by decide) (fun c_8 => ?_) (fun c_8 => ?_)
  · have hf := hf.trans (if_pos c_8)
    refine lv_aload_n hx hb dX5_pass_21 rfl (lv_at hl 0 rfl) ?_
    refine va_get (D := D) (ci := 6) (v := .ref (ad 1)) (C := RX5) (T := TX5) (N := 10) hx hb hts hin hown hK hP 0 rfl rfl 2 (by decide) (hts (.fieldLink RX5 22 "HatReservations" "history" "LHatReservations$History;") (by decide +kernel)) (fun _ h9 => h9) rfl dX5_pass_22 ?_
    refine lv_aload_n hx hb dX5_pass_25 rfl (lv_at hl 0 rfl) ?_
    refine va_get (D := D) (ci := 6) (v := .ref (ai 9 8)) (C := RX5) (T := TX5) (N := 10) hx hb hts hin hown hK hP 0 rfl rfl 0 (by decide) (hts (.fieldLink RX5 10 "HatReservations" "hall" "LHatReservations$Hall;") (by decide +kernel)) (fun _ h9 => h9) rfl dX5_pass_26 ?_
    refine hcMv (As := [.ref (ai 9 8)]) (rest := []) (wr := OR3 ca en ai ad bd u) (f := fun z => HHW ca ai ad z) (F := fX4_remember (oH u)) 0 5 ⟨hx, hb, hml, hown, hts⟩ (kX4_remember l D ca ai ad _ (oH u) hoi.2.2.2.1 hoi.2.2.2.2.1) (cwV 1 hts gX5_pass_X4_remember rfl rfl rfl (by decide +kernel) ⟨Nat.le_of_ble_eq_true rfl, Nat.le_of_ble_eq_true rfl⟩) hK hP hD hS hA OP3 rfl rfl rfl hl.1 rfl (Nat.le_of_ble_eq_true rfl) ⟨Nat.le_of_ble_eq_true rfl, Nat.le_of_ble_eq_true rfl⟩ dX5_pass_29 (fun H locs hP hD hS => ?_)
    have hP : va_P D vwCl (OW ca en ai ad bd (remO u)) H := P_perm (OP3 (w := (remO u))).symm hP
    have hD : va_D A (OW ca en ai ad bd (remO u)) := D_perm (OP3 (w := (remO u))).symm hD
    refine lv_aload_n hx hb dX5_pass_32 rfl (lv_at hl 0 rfl) ?_
    refine va_get (D := D) (ci := 6) (v := .ref (ai 9 8)) (C := RX5) (T := TX5) (N := 10) hx hb hts hin hown hK hP 0 rfl rfl 0 (by decide) (hts (.fieldLink RX5 10 "HatReservations" "hall" "LHatReservations$Hall;") (by decide +kernel)) (fun _ h9 => h9) rfl dX5_pass_33 ?_
    refine lv_iload_n hx hb dX5_pass_36 rfl (lv_at hl 1 rfl) ?_
    refine hcMi (As := [.int x1]) (rest := []) (wr := OR1 ca en ai ad bd (remO u)) (f := HW ca (ai 9)) (F := fX3_letPass (og0 (remO u)) x1) 0 4 ⟨hx, hb, hml, hown, hts⟩ (kX3_letPass l D ca (ai 9) _ (og0 (remO u)) x1 ) (cwV 1 hts gX5_pass_X3_letPass rfl rfl rfl (by decide +kernel) ⟨Nat.le_of_ble_eq_true rfl, Nat.le_of_ble_eq_true rfl⟩) hK hP hD hS hA OP1 rfl rfl rfl hl.1 rfl (Nat.le_of_ble_eq_true rfl) ⟨Nat.le_of_ble_eq_true rfl, Nat.le_of_ble_eq_true rfl⟩ dX5_pass_37 (fun H locs hP hD hS => ?_)
    have hP : va_P D vwCl (OW ca en ai ad bd (os0 (fX3_letPass (og0 (remO u)) x1).2 (remO u))) H := P_perm (OP1 (w := (os0 (fX3_letPass (og0 (remO u)) x1).2 (remO u)))).symm hP
    have hD : va_D A (OW ca en ai ad bd (os0 (fX3_letPass (og0 (remO u)) x1).2 (remO u))) := D_perm (OP1 (w := (os0 (fX3_letPass (og0 (remO u)) x1).2 (remO u)))).symm hD
    refine vx_ret (W.widen (k := 2) (n := 12) (Nat.le_of_ble_eq_true rfl) (Nat.le_of_ble_eq_true rfl) ?_)
    exact W.iret (v := (fX3_letPass (og0 (remO u)) x1).1) hx hb hr (fun t ht hW => ⟨⟨(fX3_letPass (og0 (remO u)) x1).1, (os0 (fX3_letPass (og0 (remO u)) x1).2 (remO u)), rfl, hf.symm, by rw [ht]; exact hP, va_K.moved hW.alike hK, hD⟩, hS.F ht⟩) hS.2.2 dX5_pass_40
  · have hf := hf.trans (if_neg c_8)
    exact thrIAE (is := 201) (text := "the number is not from 1 to 60") hx hb hfl hown (hts (.classLink RX5 58 "java/lang/IllegalArgumentException") (by decide +kernel)) (hts (.initialized "java/lang/IllegalArgumentException") (by decide +kernel)) (fun w hw => hts w (List.mem_cons_of_mem _ (List.mem_append_right _ hw))) hX (by decide +kernel) hS (by rw [hml]; exact hl.1) dX5_pass_11 dX5_pass_14 dX5_pass_15 dX5_pass_17 dX5_pass_20 hxt (Nat.le_of_ble_eq_true rfl) (Nat.le_of_ble_eq_true rfl) (Nat.le_of_ble_eq_true rfl) (Nat.le_of_ble_eq_true rfl) hlocks (fun t hAl h1 h2 => xc_T (w := u) (k := 1) 0 rfl rfl (by rw [hf]) hP hD hS h1 h2) hS.2.2 (Nat.le_of_ble_eq_true rfl) (Nat.le_of_ble_eq_true rfl)
def fX5_sweep (u : OS) (x1 : Int32) : Nat × Int32 × OS :=
  (if (fX3_refusalOfSweep (og0 u) x1) = 0 then (0, (fX3_sweepHats (og0 (remO u)) x1).1, os0 (fX3_sweepHats (og0 (remO u)) x1).2 (remO u)) else (1, 0, u))
set_option maxHeartbeats 4000000 in
set_option maxRecDepth 100000 in
/-- sweep -/
theorem kX5_sweep (l : Launch) (hfl : l.stackTraces = false) (D : va_G) (ca : Nat → ClassId) (en ks vs : Nat → Nat) (ai : Nat → Nat → Nat) (ad bd : Nat → Nat) (sz : Nat) (u : OS) (x1 : Int32) (hoi : OI u) : HMet l yX5_sweep wsX5_sweep ({ frames := 6, cells := 2, slots := 12, locals := 126 }) D ca en ks vs ai ad bd sz u [.ref (ad 0), .int x1] ["java/lang/IllegalArgumentException"] (fX5_sweep u x1) := by
  unfold HMet
  refine vx_ofW (cc := cX5_sweep) (maxL := 2) (ret := (some .int)) (by decide) rfl ?_
  intro p e s m args below meth c s₁ B hml hxt hv
  obtain ⟨rfl, hsz, hP, hK, hD0, hX⟩ := hv
  have hx := B.exec
  have hb := B.bytes
  have hr := B.returns
  have hts := atoms_spec (ws := wsX5_sweep) B.pre
  have hown : s.vm.findClass RX5 = some m.cls := findClass_of_methodNamed B.named
  have hlocks := B.notSynchronized
  have hin5 : ∀ w ∈ wsX50, w ∈ wsX5_sweep := by decide +kernel
  have hin3 : ∀ w ∈ wsX30, w ∈ wsX5_sweep := by decide +kernel
  have hin4 : ∀ w ∈ wsX40, w ∈ wsX5_sweep := by decide +kernel
  have hin := hin5
  subst hsz
  have hD := hD0.self (sz := s.heap.size)
  generalize hAe : va_A (OW ca en ai ad bd u) s.heap.size = A at hD hX ⊢
  have hA : ∀ q : Nat, s.heap.size ≤ q → A q := fun q h => by rw [← hAe]; exact Or.inr h
  have hS : va_S A s.heap s.heap [] := va_S.rf
  have hf : fX5_sweep u x1 = fX5_sweep u x1 := rfl
  refine W_entry (Nat.le_of_ble_eq_true rfl) (fun ls hl => ?_)
  have hl : lv_has ls 2 [(0, .ref (ad 0)), (1, .int x1)] := hl
  refine lv_aload_n hx hb dX5_sweep_0 rfl (lv_at hl 0 rfl) ?_
  refine va_get (D := D) (ci := 6) (v := .ref (ai 9 8)) (C := RX5) (T := TX5) (N := 10) hx hb hts hin hown hK hP 0 rfl rfl 0 (by decide) (hts (.fieldLink RX5 10 "HatReservations" "hall" "LHatReservations$Hall;") (by decide +kernel)) (fun _ h9 => h9) rfl dX5_sweep_1 ?_
  refine lv_iload_n hx hb dX5_sweep_4 rfl (lv_at hl 1 rfl) ?_
  refine hcRi (As := [.int x1]) (rest := []) 0 4 ⟨hx, hb, hml, hown, hts⟩ (kX3_refusalOfSweep l D ca (ai 9) (og0 u) x1 ) (cwV 1 hts gX5_sweep_X3_refusalOfSweep rfl rfl rfl (by decide +kernel) ⟨Nat.le_of_ble_eq_true rfl, Nat.le_of_ble_eq_true rfl⟩) hK (OP_hall hP) rfl rfl rfl hl.1 rfl (Nat.le_of_ble_eq_true rfl) ⟨Nat.le_of_ble_eq_true rfl, Nat.le_of_ble_eq_true rfl⟩ dX5_sweep_5 ?_
  refine lv_if_eq (tgt := 21) hx hb dX5_sweep_8 (by decide) (fun c_8 => ?_) (fun c_8 => ?_)
  · have hf := hf.trans (if_pos c_8)
    refine lv_aload_n hx hb dX5_sweep_21 rfl (lv_at hl 0 rfl) ?_
    refine va_get (D := D) (ci := 6) (v := .ref (ad 1)) (C := RX5) (T := TX5) (N := 10) hx hb hts hin hown hK hP 0 rfl rfl 2 (by decide) (hts (.fieldLink RX5 22 "HatReservations" "history" "LHatReservations$History;") (by decide +kernel)) (fun _ h9 => h9) rfl dX5_sweep_22 ?_
    refine lv_aload_n hx hb dX5_sweep_25 rfl (lv_at hl 0 rfl) ?_
    refine va_get (D := D) (ci := 6) (v := .ref (ai 9 8)) (C := RX5) (T := TX5) (N := 10) hx hb hts hin hown hK hP 0 rfl rfl 0 (by decide) (hts (.fieldLink RX5 10 "HatReservations" "hall" "LHatReservations$Hall;") (by decide +kernel)) (fun _ h9 => h9) rfl dX5_sweep_26 ?_
    refine hcMv (As := [.ref (ai 9 8)]) (rest := []) (wr := OR3 ca en ai ad bd u) (f := fun z => HHW ca ai ad z) (F := fX4_remember (oH u)) 0 5 ⟨hx, hb, hml, hown, hts⟩ (kX4_remember l D ca ai ad _ (oH u) hoi.2.2.2.1 hoi.2.2.2.2.1) (cwV 1 hts gX5_sweep_X4_remember rfl rfl rfl (by decide +kernel) ⟨Nat.le_of_ble_eq_true rfl, Nat.le_of_ble_eq_true rfl⟩) hK hP hD hS hA OP3 rfl rfl rfl hl.1 rfl (Nat.le_of_ble_eq_true rfl) ⟨Nat.le_of_ble_eq_true rfl, Nat.le_of_ble_eq_true rfl⟩ dX5_sweep_29 (fun H locs hP hD hS => ?_)
    have hP : va_P D vwCl (OW ca en ai ad bd (remO u)) H := P_perm (OP3 (w := (remO u))).symm hP
    have hD : va_D A (OW ca en ai ad bd (remO u)) := D_perm (OP3 (w := (remO u))).symm hD
    refine lv_aload_n hx hb dX5_sweep_32 rfl (lv_at hl 0 rfl) ?_
    refine va_get (D := D) (ci := 6) (v := .ref (ai 9 8)) (C := RX5) (T := TX5) (N := 10) hx hb hts hin hown hK hP 0 rfl rfl 0 (by decide) (hts (.fieldLink RX5 10 "HatReservations" "hall" "LHatReservations$Hall;") (by decide +kernel)) (fun _ h9 => h9) rfl dX5_sweep_33 ?_
    refine lv_iload_n hx hb dX5_sweep_36 rfl (lv_at hl 1 rfl) ?_
    refine hcMi (As := [.int x1]) (rest := []) (wr := OR1 ca en ai ad bd (remO u)) (f := HW ca (ai 9)) (F := fX3_sweepHats (og0 (remO u)) x1) 0 4 ⟨hx, hb, hml, hown, hts⟩ (kX3_sweepHats l D ca (ai 9) _ (og0 (remO u)) x1 ) (cwV 1 hts gX5_sweep_X3_sweepHats rfl rfl rfl (by decide +kernel) ⟨Nat.le_of_ble_eq_true rfl, Nat.le_of_ble_eq_true rfl⟩) hK hP hD hS hA OP1 rfl rfl rfl hl.1 rfl (Nat.le_of_ble_eq_true rfl) ⟨Nat.le_of_ble_eq_true rfl, Nat.le_of_ble_eq_true rfl⟩ dX5_sweep_37 (fun H locs hP hD hS => ?_)
    have hP : va_P D vwCl (OW ca en ai ad bd (os0 (fX3_sweepHats (og0 (remO u)) x1).2 (remO u))) H := P_perm (OP1 (w := (os0 (fX3_sweepHats (og0 (remO u)) x1).2 (remO u)))).symm hP
    have hD : va_D A (OW ca en ai ad bd (os0 (fX3_sweepHats (og0 (remO u)) x1).2 (remO u))) := D_perm (OP1 (w := (os0 (fX3_sweepHats (og0 (remO u)) x1).2 (remO u)))).symm hD
    refine vx_ret (W.widen (k := 2) (n := 12) (Nat.le_of_ble_eq_true rfl) (Nat.le_of_ble_eq_true rfl) ?_)
    exact W.iret (v := (fX3_sweepHats (og0 (remO u)) x1).1) hx hb hr (fun t ht hW => ⟨⟨(fX3_sweepHats (og0 (remO u)) x1).1, (os0 (fX3_sweepHats (og0 (remO u)) x1).2 (remO u)), rfl, hf.symm, by rw [ht]; exact hP, va_K.moved hW.alike hK, hD⟩, hS.F ht⟩) hS.2.2 dX5_sweep_40
  · have hf := hf.trans (if_neg c_8)
    exact thrIAE (is := 209) (text := "the number is not from 1 to 240") hx hb hfl hown (hts (.classLink RX5 58 "java/lang/IllegalArgumentException") (by decide +kernel)) (hts (.initialized "java/lang/IllegalArgumentException") (by decide +kernel)) (fun w hw => hts w (List.mem_cons_of_mem _ (List.mem_append_left _ (List.mem_append_right _ hw)))) hX (by decide +kernel) hS (by rw [hml]; exact hl.1) dX5_sweep_11 dX5_sweep_14 dX5_sweep_15 dX5_sweep_17 dX5_sweep_20 hxt (Nat.le_of_ble_eq_true rfl) (Nat.le_of_ble_eq_true rfl) (Nat.le_of_ble_eq_true rfl) (Nat.le_of_ble_eq_true rfl) hlocks (fun t hAl h1 h2 => xc_T (w := u) (k := 1) 0 rfl rfl (by rw [hf]) hP hD hS h1 h2) hS.2.2 (Nat.le_of_ble_eq_true rfl) (Nat.le_of_ble_eq_true rfl)
