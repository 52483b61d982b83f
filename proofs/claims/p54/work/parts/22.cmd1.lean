/-- what reading needs of a command text, whatever its position -/
abbrev WI (v : CS) : Prop := q1 v ≤ 60 ∧ True ∧ q5 v ≤ 10 ∧ ∀ k, q2 v k < 10
def fX2_isFull (u : CS) : Int32 :=
  (if (q1 u) < 60 then 0 else 1)
set_option maxHeartbeats 4000000 in
set_option maxRecDepth 100000 in
/-- isFull -/
theorem kX2_isFull (l : Launch) (D : va_G) (ca : Nat → ClassId) (en ks vs : Nat → Nat) (b : Nat → Nat) (u : CS) (hci : WI u) : Met l yX2_isFull wsX2_isFull ({ frames := 0, cells := 0, slots := 0, locals := 0 }) (RPc D ca (CW ca en b u) [.ref (b 4)]) (vp_Si (fun r => r = fX2_isFull u)) 0 0 (fun _ => False) := by
  refine Met.ofW (cc := cX2_isFull) (maxL := 1) (ret := (some .boolean)) (by decide) rfl ?_
  intro p e s m args below meth c s₁ B hml hv
  obtain ⟨rfl, hP, hK⟩ := hv
  have hx := B.exec
  have hb := B.bytes
  have hr := B.returns
  have hts := atoms_spec (ws := wsX2_isFull) B.pre
  have hown : s.vm.findClass RX2 = some m.cls := findClass_of_methodNamed B.named
  have hlocks := B.notSynchronized
  have hin : ∀ w ∈ wsX20, w ∈ wsX2_isFull := by decide +kernel
  obtain ⟨hc1, hc2, hc3, hc4⟩ := id hci
  have hS : va_S (fun _ => False) s.heap s.heap [] := va_S.rf
  have hf : fX2_isFull u = fX2_isFull u := rfl
  refine W_entry (Nat.le_of_ble_eq_true rfl) (fun ls hl => ?_)
  have hl : lv_has ls 1 [(0, .ref (b 4))] := hl
  refine lv_aload_n hx hb dX2_isFull_0 rfl (lv_at hl 0 rfl) ?_
  refine va_get (D := D) (ci := 3) (v := .int (nI (q1 u))) (C := RX2) (T := TX2) (N := 7) hx hb hts hin hown hK hP 0 rfl rfl 1 (by decide) (hts (.fieldLink RX2 15 "HatReservations$CommandText" "length" "I") (by decide +kernel)) (fun _ h9 => h9) rfl dX2_isFull_1 ?_
  refine lv_bipush (v := 60) hx hb dX2_isFull_4 (by decide) ?_
  refine icmpltN (a := (q1 u)) (b := 60) (tgt := 13) hx hb dX2_isFull_6 (by decide) (by omega) (by omega) (fun c_6 => ?_) (fun c_6 => ?_)
  · have hf := hf.trans (if_pos c_6)
    refine lv_iconst (v := 0) hx hb dX2_isFull_13 (by decide) ?_
    exact W.zret (ty := .boolean) (v := 0) hx hb hr (by decide) (fun t ht hW => ⟨0, rfl, hf.symm, ht⟩) (fun _ h => by cases h) dX2_isFull_14
  · have hf := hf.trans (if_neg c_6)
    refine lv_iconst (v := 1) hx hb dX2_isFull_9 (by decide) ?_
    refine lv_goto (tgt := 14) hx hb dX2_isFull_10 (by decide) ?_
    exact W.zret (ty := .boolean) (v := 1) hx hb hr (by decide) (fun t ht hW => ⟨1, rfl, hf.symm, ht⟩) (fun _ h => by cases h) dX2_isFull_14
def fX2_add (u : CS) (x1 : Int32) : Int32 × CS :=
  (nI ((q1 u) + 1), r1 ((q1 u) + 1) (r0 (upd (q0 u) (q1 u) (vp_nar .char x1)) u))
set_option maxHeartbeats 4000000 in
set_option maxRecDepth 100000 in
/-- add -/
theorem kX2_add (l : Launch) (D : va_G) (ca : Nat → ClassId) (en ks vs : Nat → Nat) (b : Nat → Nat) (sz : Nat) (u : CS) (x1 : Int32) (hlt : q1 u < 60) : Met l yX2_add wsX2_add ({ frames := 0, cells := 0, slots := 0, locals := 0 }) (MPc D ca sz (CW ca en b u) [.ref (b 4), .int x1]) (va_Qi (fun r v => (r, v) = fX2_add u x1) (MB D ca (va_A (CW ca en b u) sz) (fun v => CW ca en b v)) (va_A (CW ca en b u) sz)) 0 0 (va_A (CW ca en b u) sz) := by
  refine Met.ofW (cc := cX2_add) (maxL := 2) (ret := (some .int)) (by decide) rfl ?_
  intro p e s m args below meth c s₁ B hml hv
  obtain ⟨rfl, hsz, hP, hK, hD0⟩ := hv
  have hx := B.exec
  have hb := B.bytes
  have hr := B.returns
  have hts := atoms_spec (ws := wsX2_add) B.pre
  have hown : s.vm.findClass RX2 = some m.cls := findClass_of_methodNamed B.named
  have hlocks := B.notSynchronized
  have hin : ∀ w ∈ wsX20, w ∈ wsX2_add := by decide +kernel
  subst hsz
  have hD := hD0.self (sz := s.heap.size)
  generalize hAe : va_A (CW ca en b u) s.heap.size = A at hD ⊢
  have hA : ∀ q : Nat, s.heap.size ≤ q → A q := fun q h => by rw [← hAe]; exact Or.inr h
  have hS : va_S A s.heap s.heap [] := va_S.rf
  have hf : fX2_add u x1 = fX2_add u x1 := rfl
  refine W_entry (Nat.le_of_ble_eq_true rfl) (fun ls hl => ?_)
  have hl : lv_has ls 2 [(0, .ref (b 4)), (1, .int x1)] := hl
  refine lv_aload_n hx hb dX2_add_0 rfl (lv_at hl 0 rfl) ?_
  refine va_get (D := D) (ci := 3) (v := .ref (b 0)) (C := RX2) (T := TX2) (N := 7) hx hb hts hin hown hK hP 0 rfl rfl 0 (by decide) (hts (.fieldLink RX2 9 "HatReservations$CommandText" "characters" "[C") (by decide +kernel)) (fun _ h9 => h9) rfl dX2_add_1 ?_
  refine lv_aload_n hx hb dX2_add_4 rfl (lv_at hl 0 rfl) ?_
  refine va_get (D := D) (ci := 3) (v := .int (nI (q1 u))) (C := RX2) (T := TX2) (N := 7) hx hb hts hin hown hK hP 0 rfl rfl 1 (by decide) (hts (.fieldLink RX2 15 "HatReservations$CommandText" "length" "I") (by decide +kernel)) (fun _ h9 => h9) rfl dX2_add_5 ?_
  refine lv_iload_n hx hb dX2_add_8 rfl (lv_at hl 1 rfl) ?_
  refine castN (f := q0 u) (k := (q1 u)) 1 hx hb hK hP hD hS rfl (by omega) (by decide) dX2_add_9 (fun H locs hP hD hS => ?_)
  have hP : va_P D vwCl (CW ca en b (r0 (upd (q0 u) (q1 u) (vp_nar .char x1)) u)) H := hP
  have hD : va_D A (CW ca en b (r0 (upd (q0 u) (q1 u) (vp_nar .char x1)) u)) := hD
  refine lv_aload_n hx hb dX2_add_10 rfl (lv_at hl 0 rfl) ?_
  refine lv_dup hx hb dX2_add_11 rfl ?_
  refine va_get (D := D) (ci := 3) (v := .int (nI (q1 u))) (C := RX2) (T := TX2) (N := 7) hx hb hts hin hown hK hP 0 rfl rfl 1 (by decide) (hts (.fieldLink RX2 15 "HatReservations$CommandText" "length" "I") (by decide +kernel)) (fun _ h9 => h9) rfl dX2_add_12 ?_
  refine lv_iconst (v := 1) hx hb dX2_add_15 (by decide) ?_
  refine iaddN (a := (q1 u)) (b := 1) hx hb dX2_add_16 ?_
  refine va_put (D := D) (ci := 3) (v := .int (nI ((q1 u) + 1))) (ty := .int) (C := RX2) (T := TX2) (N := 7) hx hb hts hin tyX2 tyX2_ok nmX2 hown hK hP hD hS 0 rfl rfl 1 (by decide) (hts (.fieldLink RX2 15 "HatReservations$CommandText" "length" "I") (by decide +kernel)) (fun _ h9 => h9) rfl (by decide +kernel) rfl rfl (Nat.le_of_ble_eq_true rfl) dX2_add_17 (fun H locs hP hD hS => ?_)
  have hP : va_P D vwCl (CW ca en b (r1 ((q1 u) + 1) (r0 (upd (q0 u) (q1 u) (vp_nar .char x1)) u))) H := hP
  have hD : va_D A (CW ca en b (r1 ((q1 u) + 1) (r0 (upd (q0 u) (q1 u) (vp_nar .char x1)) u))) := hD
  refine lv_aload_n hx hb dX2_add_20 rfl (lv_at hl 0 rfl) ?_
  refine va_get (D := D) (ci := 3) (v := .int (nI ((q1 u) + 1))) (C := RX2) (T := TX2) (N := 7) hx hb hts hin hown hK hP 0 rfl rfl 1 (by decide) (hts (.fieldLink RX2 15 "HatReservations$CommandText" "length" "I") (by decide +kernel)) (fun _ h9 => h9) rfl dX2_add_21 ?_
  exact W.iret (v := nI ((q1 u) + 1)) hx hb hr (fun t ht hW => ⟨⟨nI ((q1 u) + 1), r1 ((q1 u) + 1) (r0 (upd (q0 u) (q1 u) (vp_nar .char x1)) u), rfl, hf.symm, by rw [ht]; exact hP, va_K.moved hW.alike hK, hD⟩, hS.F ht⟩) hS.2.2 dX2_add_24
def fX2_empty (u : CS) : CS :=
  (r1 0 u)
set_option maxHeartbeats 4000000 in
set_option maxRecDepth 100000 in
/-- empty -/
theorem kX2_empty (l : Launch) (D : va_G) (ca : Nat → ClassId) (en ks vs : Nat → Nat) (b : Nat → Nat) (sz : Nat) (u : CS) : Met l yX2_empty wsX2_empty ({ frames := 0, cells := 0, slots := 0, locals := 0 }) (MPc D ca sz (CW ca en b u) [.ref (b 4)]) (va_Qv (fun v => v = fX2_empty u) (MB D ca (va_A (CW ca en b u) sz) (fun v => CW ca en b v)) (va_A (CW ca en b u) sz)) 0 0 (va_A (CW ca en b u) sz) := by
  refine Met.ofW (cc := cX2_empty) (maxL := 1) (ret := none) (by decide) rfl ?_
  intro p e s m args below meth c s₁ B hml hv
  obtain ⟨rfl, hsz, hP, hK, hD0⟩ := hv
  have hx := B.exec
  have hb := B.bytes
  have hr := B.returns
  have hts := atoms_spec (ws := wsX2_empty) B.pre
  have hown : s.vm.findClass RX2 = some m.cls := findClass_of_methodNamed B.named
  have hlocks := B.notSynchronized
  have hin : ∀ w ∈ wsX20, w ∈ wsX2_empty := by decide +kernel
  subst hsz
  have hD := hD0.self (sz := s.heap.size)
  generalize hAe : va_A (CW ca en b u) s.heap.size = A at hD ⊢
  have hA : ∀ q : Nat, s.heap.size ≤ q → A q := fun q h => by rw [← hAe]; exact Or.inr h
  have hS : va_S A s.heap s.heap [] := va_S.rf
  have hf : fX2_empty u = fX2_empty u := rfl
  refine W_entry (Nat.le_of_ble_eq_true rfl) (fun ls hl => ?_)
  have hl : lv_has ls 1 [(0, .ref (b 4))] := hl
  refine lv_aload_n hx hb dX2_empty_0 rfl (lv_at hl 0 rfl) ?_
  refine lv_iconst (v := 0) hx hb dX2_empty_1 (by decide) ?_
  refine va_put (D := D) (ci := 3) (v := .int (nI 0)) (ty := .int) (C := RX2) (T := TX2) (N := 7) hx hb hts hin tyX2 tyX2_ok nmX2 hown hK hP hD hS 0 rfl rfl 1 (by decide) (hts (.fieldLink RX2 15 "HatReservations$CommandText" "length" "I") (by decide +kernel)) (fun _ h9 => h9) rfl (by decide +kernel) rfl rfl (Nat.le_of_ble_eq_true rfl) dX2_empty_2 (fun H locs hP hD hS => ?_)
  have hP : va_P D vwCl (CW ca en b (r1 0 u)) H := hP
  have hD : va_D A (CW ca en b (r1 0 u)) := hD
  exact W.vret hx hb hr (fun t ht hW => ⟨⟨(r1 0 u), rfl, hf.symm, by rw [ht]; exact hP, va_K.moved hW.alike hK, hD⟩, hS.F ht⟩) hS.2.2 dX2_empty_5
def fX2_standsOnDigit (u : CS) : Int32 :=
  (if (q1 u) ≤ (q6 u) then 0 else (if ((q0 u) (q6 u)) < 48 then 0 else (if 57 < ((q0 u) (q6 u)) then 0 else 1)))
set_option maxHeartbeats 4000000 in
set_option maxRecDepth 100000 in
/-- standsOnDigit -/
theorem kX2_standsOnDigit (l : Launch) (D : va_G) (ca : Nat → ClassId) (en ks vs : Nat → Nat) (b : Nat → Nat) (u : CS) (hci : CI u) : Met l yX2_standsOnDigit wsX2_standsOnDigit ({ frames := 0, cells := 0, slots := 0, locals := 0 }) (RPc D ca (CW ca en b u) [.ref (b 4)]) (vp_Si (fun r => r = fX2_standsOnDigit u)) 0 0 (fun _ => False) := by
  refine Met.ofW (cc := cX2_standsOnDigit) (maxL := 1) (ret := (some .boolean)) (by decide) rfl ?_
  intro p e s m args below meth c s₁ B hml hv
  obtain ⟨rfl, hP, hK⟩ := hv
  have hx := B.exec
  have hb := B.bytes
  have hr := B.returns
  have hts := atoms_spec (ws := wsX2_standsOnDigit) B.pre
  have hown : s.vm.findClass RX2 = some m.cls := findClass_of_methodNamed B.named
  have hlocks := B.notSynchronized
  have hin : ∀ w ∈ wsX20, w ∈ wsX2_standsOnDigit := by decide +kernel
  obtain ⟨hc1, hc2, hc3, hc4⟩ := id hci
  have hS : va_S (fun _ => False) s.heap s.heap [] := va_S.rf
  have hf : fX2_standsOnDigit u = fX2_standsOnDigit u := rfl
  refine W_entry (Nat.le_of_ble_eq_true rfl) (fun ls hl => ?_)
  have hl : lv_has ls 1 [(0, .ref (b 4))] := hl
  refine lv_aload_n hx hb dX2_standsOnDigit_0 rfl (lv_at hl 0 rfl) ?_
  refine va_get (D := D) (ci := 3) (v := .int (nI (q6 u))) (C := RX2) (T := TX2) (N := 7) hx hb hts hin hown hK hP 0 rfl rfl 6 (by decide) (hts (.fieldLink RX2 35 "HatReservations$CommandText" "position" "I") (by decide +kernel)) (fun _ h9 => h9) rfl dX2_standsOnDigit_1 ?_
  refine lv_aload_n hx hb dX2_standsOnDigit_4 rfl (lv_at hl 0 rfl) ?_
  refine va_get (D := D) (ci := 3) (v := .int (nI (q1 u))) (C := RX2) (T := TX2) (N := 7) hx hb hts hin hown hK hP 0 rfl rfl 1 (by decide) (hts (.fieldLink RX2 15 "HatReservations$CommandText" "length" "I") (by decide +kernel)) (fun _ h9 => h9) rfl dX2_standsOnDigit_5 ?_
  refine icmpgeN (a := (q6 u)) (b := (q1 u)) (tgt := 43) hx hb dX2_standsOnDigit_8 (by decide) (by omega) (by omega) (fun c_8 => ?_) (fun c_8 => ?_)
  · have hf := hf.trans (if_pos c_8)
    refine lv_iconst (v := 0) hx hb dX2_standsOnDigit_43 (by decide) ?_
    exact W.zret (ty := .boolean) (v := 0) hx hb hr (by decide) (fun t ht hW => ⟨0, rfl, hf.symm, ht⟩) (fun _ h => by cases h) dX2_standsOnDigit_44
  · have hf := hf.trans (if_neg c_8)
    refine lv_aload_n hx hb dX2_standsOnDigit_11 rfl (lv_at hl 0 rfl) ?_
    refine va_get (D := D) (ci := 3) (v := .ref (b 0)) (C := RX2) (T := TX2) (N := 7) hx hb hts hin hown hK hP 0 rfl rfl 0 (by decide) (hts (.fieldLink RX2 9 "HatReservations$CommandText" "characters" "[C") (by decide +kernel)) (fun _ h9 => h9) rfl dX2_standsOnDigit_12 ?_
    refine lv_aload_n hx hb dX2_standsOnDigit_15 rfl (lv_at hl 0 rfl) ?_
    refine va_get (D := D) (ci := 3) (v := .int (nI (q6 u))) (C := RX2) (T := TX2) (N := 7) hx hb hts hin hown hK hP 0 rfl rfl 6 (by decide) (hts (.fieldLink RX2 35 "HatReservations$CommandText" "position" "I") (by decide +kernel)) (fun _ h9 => h9) rfl dX2_standsOnDigit_16 ?_
    refine caldN (f := q0 u) (k := (q6 u)) 1 hx hb hK hP rfl (by omega) (by decide) dX2_standsOnDigit_19 ?_
    refine lv_bipush (v := 48) hx hb dX2_standsOnDigit_20 (by decide) ?_
    refine lv_icmp_lt (tgt := 43) hx hb dX2_standsOnDigit_22 (by decide) (fun c_22 => ?_) (fun c_22 => ?_)
    · have hf := hf.trans (if_pos c_22)
      refine lv_iconst (v := 0) hx hb dX2_standsOnDigit_43 (by decide) ?_
      exact W.zret (ty := .boolean) (v := 0) hx hb hr (by decide) (fun t ht hW => ⟨0, rfl, hf.symm, ht⟩) (fun _ h => by cases h) dX2_standsOnDigit_44
    · have hf := hf.trans (if_neg c_22)
      refine lv_aload_n hx hb dX2_standsOnDigit_25 rfl (lv_at hl 0 rfl) ?_
      refine va_get (D := D) (ci := 3) (v := .ref (b 0)) (C := RX2) (T := TX2) (N := 7) hx hb hts hin hown hK hP 0 rfl rfl 0 (by decide) (hts (.fieldLink RX2 9 "HatReservations$CommandText" "characters" "[C") (by decide +kernel)) (fun _ h9 => h9) rfl dX2_standsOnDigit_26 ?_
      refine lv_aload_n hx hb dX2_standsOnDigit_29 rfl (lv_at hl 0 rfl) ?_
      refine va_get (D := D) (ci := 3) (v := .int (nI (q6 u))) (C := RX2) (T := TX2) (N := 7) hx hb hts hin hown hK hP 0 rfl rfl 6 (by decide) (hts (.fieldLink RX2 35 "HatReservations$CommandText" "position" "I") (by decide +kernel)) (fun _ h9 => h9) rfl dX2_standsOnDigit_30 ?_
      refine caldN (f := q0 u) (k := (q6 u)) 1 hx hb hK hP rfl (by omega) (by decide) dX2_standsOnDigit_33 ?_
      refine lv_bipush (v := 57) hx hb dX2_standsOnDigit_34 (by decide) ?_
      refine lv_icmp_gt (tgt := 43) hx hb dX2_standsOnDigit_36 (by decide) (fun c_36 => ?_) (fun c_36 => ?_)
      · have hf := hf.trans (if_pos c_36)
        refine lv_iconst (v := 0) hx hb dX2_standsOnDigit_43 (by decide) ?_
        exact W.zret (ty := .boolean) (v := 0) hx hb hr (by decide) (fun t ht hW => ⟨0, rfl, hf.symm, ht⟩) (fun _ h => by cases h) dX2_standsOnDigit_44
      · have hf := hf.trans (if_neg c_36)
        refine lv_iconst (v := 1) hx hb dX2_standsOnDigit_39 (by decide) ?_
        refine lv_goto (tgt := 44) hx hb dX2_standsOnDigit_40 (by decide) ?_
        exact W.zret (ty := .boolean) (v := 1) hx hb hr (by decide) (fun t ht hW => ⟨1, rfl, hf.symm, ht⟩) (fun _ h => by cases h) dX2_standsOnDigit_44
theorem standsOnDigit_lt {u : CS} (h : ¬ fX2_standsOnDigit u = 0) : q6 u < q1 u := by
  unfold fX2_standsOnDigit at h
  by_cases c : q1 u ≤ q6 u
  · rw [if_pos c] at h; exact absurd rfl h
  · omega
def fX2_readSign (u : CS) (x1 : Int32) : Int32 × CS :=
  (if (q1 u) ≤ (q6 u) then (0, u) else (if ((q0 u) (q6 u)) = x1 then (1, r6 ((q6 u) + 1) u) else (0, u)))
set_option maxHeartbeats 4000000 in
set_option maxRecDepth 100000 in
/-- readSign -/
theorem kX2_readSign (l : Launch) (D : va_G) (ca : Nat → ClassId) (en ks vs : Nat → Nat) (b : Nat → Nat) (sz : Nat) (u : CS) (x1 : Int32) (hci : CI u) : Met l yX2_readSign wsX2_readSign ({ frames := 0, cells := 0, slots := 0, locals := 0 }) (MPc D ca sz (CW ca en b u) [.ref (b 4), .int x1]) (va_Qi (fun r v => (r, v) = fX2_readSign u x1) (MB D ca (va_A (CW ca en b u) sz) (fun v => CW ca en b v)) (va_A (CW ca en b u) sz)) 0 0 (va_A (CW ca en b u) sz) := by
  refine Met.ofW (cc := cX2_readSign) (maxL := 2) (ret := (some .boolean)) (by decide) rfl ?_
  intro p e s m args below meth c s₁ B hml hv
  obtain ⟨rfl, hsz, hP, hK, hD0⟩ := hv
  have hx := B.exec
  have hb := B.bytes
  have hr := B.returns
  have hts := atoms_spec (ws := wsX2_readSign) B.pre
  have hown : s.vm.findClass RX2 = some m.cls := findClass_of_methodNamed B.named
  have hlocks := B.notSynchronized
  have hin : ∀ w ∈ wsX20, w ∈ wsX2_readSign := by decide +kernel
  obtain ⟨hc1, hc2, hc3, hc4⟩ := id hci
  subst hsz
  have hD := hD0.self (sz := s.heap.size)
  generalize hAe : va_A (CW ca en b u) s.heap.size = A at hD ⊢
  have hA : ∀ q : Nat, s.heap.size ≤ q → A q := fun q h => by rw [← hAe]; exact Or.inr h
  have hS : va_S A s.heap s.heap [] := va_S.rf
  have hf : fX2_readSign u x1 = fX2_readSign u x1 := rfl
  refine W_entry (Nat.le_of_ble_eq_true rfl) (fun ls hl => ?_)
  have hl : lv_has ls 2 [(0, .ref (b 4)), (1, .int x1)] := hl
  refine lv_aload_n hx hb dX2_readSign_0 rfl (lv_at hl 0 rfl) ?_
  refine va_get (D := D) (ci := 3) (v := .int (nI (q6 u))) (C := RX2) (T := TX2) (N := 7) hx hb hts hin hown hK hP 0 rfl rfl 6 (by decide) (hts (.fieldLink RX2 35 "HatReservations$CommandText" "position" "I") (by decide +kernel)) (fun _ h9 => h9) rfl dX2_readSign_1 ?_
  refine lv_aload_n hx hb dX2_readSign_4 rfl (lv_at hl 0 rfl) ?_
  refine va_get (D := D) (ci := 3) (v := .int (nI (q1 u))) (C := RX2) (T := TX2) (N := 7) hx hb hts hin hown hK hP 0 rfl rfl 1 (by decide) (hts (.fieldLink RX2 15 "HatReservations$CommandText" "length" "I") (by decide +kernel)) (fun _ h9 => h9) rfl dX2_readSign_5 ?_
  refine icmpgeN (a := (q6 u)) (b := (q1 u)) (tgt := 24) hx hb dX2_readSign_8 (by decide) (by omega) (by omega) (fun c_8 => ?_) (fun c_8 => ?_)
  · have hf := hf.trans (if_pos c_8)
    refine lv_iconst (v := 0) hx hb dX2_readSign_24 (by decide) ?_
    exact W.zret (ty := .boolean) (v := 0) hx hb hr (by decide) (fun t ht hW => ⟨⟨0, u, rfl, hf.symm, by rw [ht]; exact hP, va_K.moved hW.alike hK, hD⟩, hS.F ht⟩) hS.2.2 dX2_readSign_25
  · have hf := hf.trans (if_neg c_8)
    refine lv_aload_n hx hb dX2_readSign_11 rfl (lv_at hl 0 rfl) ?_
    refine va_get (D := D) (ci := 3) (v := .ref (b 0)) (C := RX2) (T := TX2) (N := 7) hx hb hts hin hown hK hP 0 rfl rfl 0 (by decide) (hts (.fieldLink RX2 9 "HatReservations$CommandText" "characters" "[C") (by decide +kernel)) (fun _ h9 => h9) rfl dX2_readSign_12 ?_
    refine lv_aload_n hx hb dX2_readSign_15 rfl (lv_at hl 0 rfl) ?_
    refine va_get (D := D) (ci := 3) (v := .int (nI (q6 u))) (C := RX2) (T := TX2) (N := 7) hx hb hts hin hown hK hP 0 rfl rfl 6 (by decide) (hts (.fieldLink RX2 35 "HatReservations$CommandText" "position" "I") (by decide +kernel)) (fun _ h9 => h9) rfl dX2_readSign_16 ?_
    refine caldN (f := q0 u) (k := (q6 u)) 1 hx hb hK hP rfl (by omega) (by decide) dX2_readSign_19 ?_
    refine lv_iload_n hx hb dX2_readSign_20 rfl (lv_at hl 1 rfl) ?_
    refine lv_icmp_eq (tgt := 26) hx hb dX2_readSign_21 (by decide) (fun c_21 => ?_) (fun c_21 => ?_)
    · have hf := hf.trans (if_pos c_21)
      refine lv_aload_n hx hb dX2_readSign_26 rfl (lv_at hl 0 rfl) ?_
      refine lv_dup hx hb dX2_readSign_27 rfl ?_
      refine va_get (D := D) (ci := 3) (v := .int (nI (q6 u))) (C := RX2) (T := TX2) (N := 7) hx hb hts hin hown hK hP 0 rfl rfl 6 (by decide) (hts (.fieldLink RX2 35 "HatReservations$CommandText" "position" "I") (by decide +kernel)) (fun _ h9 => h9) rfl dX2_readSign_28 ?_
      refine lv_iconst (v := 1) hx hb dX2_readSign_31 (by decide) ?_
      refine iaddN (a := (q6 u)) (b := 1) hx hb dX2_readSign_32 ?_
      refine va_put (D := D) (ci := 3) (v := .int (nI ((q6 u) + 1))) (ty := .int) (C := RX2) (T := TX2) (N := 7) hx hb hts hin tyX2 tyX2_ok nmX2 hown hK hP hD hS 0 rfl rfl 6 (by decide) (hts (.fieldLink RX2 35 "HatReservations$CommandText" "position" "I") (by decide +kernel)) (fun _ h9 => h9) rfl (by decide +kernel) rfl rfl (Nat.le_of_ble_eq_true rfl) dX2_readSign_33 (fun H locs hP hD hS => ?_)
      have hP : va_P D vwCl (CW ca en b (r6 ((q6 u) + 1) u)) H := hP
      have hD : va_D A (CW ca en b (r6 ((q6 u) + 1) u)) := hD
      refine lv_iconst (v := 1) hx hb dX2_readSign_36 (by decide) ?_
      exact W.zret (ty := .boolean) (v := 1) hx hb hr (by decide) (fun t ht hW => ⟨⟨1, r6 ((q6 u) + 1) u, rfl, hf.symm, by rw [ht]; exact hP, va_K.moved hW.alike hK, hD⟩, hS.F ht⟩) hS.2.2 dX2_readSign_37
    · have hf := hf.trans (if_neg c_21)
      refine lv_iconst (v := 0) hx hb dX2_readSign_24 (by decide) ?_
      exact W.zret (ty := .boolean) (v := 0) hx hb hr (by decide) (fun t ht hW => ⟨⟨0, u, rfl, hf.symm, by rw [ht]; exact hP, va_K.moved hW.alike hK, hD⟩, hS.F ht⟩) hS.2.2 dX2_readSign_25
theorem readSign_CI (u : CS) (x : Int32) (h : CI u) : CI (fX2_readSign u x).2 := by
  obtain ⟨hc1, hc2, hc3, hc4⟩ := id h
  unfold fX2_readSign
  split
  · exact h
  · split
    · exact ⟨hc1, by show q6 u + 1 ≤ q1 u; omega, hc3, hc4⟩
    · exact h
def fX2_readNumber_4 : Nat → Nat → CS → Int32 → Int32 → Int32 × CS
  | 0, k, v, x1, y2 => (if x1 ≤ (nI 3) then (y2, v) else (y2, v))
  | n + 1, k, v, x1, y2 => (if x1 ≤ (nI k) then (y2, v) else (if (fX2_standsOnDigit v) = 0 then (y2, v) else (if (nI k) = 0 then fX2_readNumber_4 n (k + 1) (r6 ((q6 v) + 1) v) x1 (0 + (((q0 v) (q6 v)) - 48)) else fX2_readNumber_4 n (k + 1) (r6 ((q6 v) + 1) v) x1 ((y2 * 10) + (((q0 v) (q6 v)) - 48)))))
def fX2_readNumber (u : CS) (x1 : Int32) : Int32 × CS :=
  fX2_readNumber_4 3 0 u x1 (-1)
set_option maxHeartbeats 4000000 in
set_option maxRecDepth 100000 in
/-- readNumber -/
theorem kX2_readNumber (l : Launch) (D : va_G) (ca : Nat → ClassId) (en ks vs : Nat → Nat) (b : Nat → Nat) (sz : Nat) (u : CS) (x1 : Int32) (hci : CI u) (hx1 : x1 ≤ 3) : Met l yX2_readNumber wsX2_readNumber ({ frames := 1, cells := 0, slots := 0, locals := 20 }) (MPc D ca sz (CW ca en b u) [.ref (b 4), .int x1]) (va_Qi (fun r v => (r, v) = fX2_readNumber u x1) (MB D ca (va_A (CW ca en b u) sz) (fun v => CW ca en b v)) (va_A (CW ca en b u) sz)) 0 0 (va_A (CW ca en b u) sz) := by
  refine Met.ofW (cc := cX2_readNumber) (maxL := 4) (ret := (some .int)) (by decide) rfl ?_
  intro p e s m args below meth c s₁ B hml hv
  obtain ⟨rfl, hsz, hP, hK, hD0⟩ := hv
  have hx := B.exec
  have hb := B.bytes
  have hr := B.returns
  have hts := atoms_spec (ws := wsX2_readNumber) B.pre
  have hown : s.vm.findClass RX2 = some m.cls := findClass_of_methodNamed B.named
  have hlocks := B.notSynchronized
  have hin : ∀ w ∈ wsX20, w ∈ wsX2_readNumber := by decide +kernel
  subst hsz
  have hD := hD0.self (sz := s.heap.size)
  generalize hAe : va_A (CW ca en b u) s.heap.size = A at hD ⊢
  have hA : ∀ q : Nat, s.heap.size ≤ q → A q := fun q h => by rw [← hAe]; exact Or.inr h
  have hS : va_S A s.heap s.heap [] := va_S.rf
  have cut_4 : ∀ (n k : Nat) (hnk : n + k = 3) (y2 : Int32) (v : CS) (hci : CI v) (H : Heap) (locs : List Loc) (hP : va_P D vwCl (CW ca en b v) H) (hD : va_D A (CW ca en b v)) (hS : va_S A s.heap H locs) (hf : fX2_readNumber u x1 = fX2_readNumber_4 n k v x1 y2) (ls : Array Slot) (hl : lv_has ls 4 [(0, .ref (b 4)), (1, .int x1), (2, .int y2), (3, .int (nI k))]), W p l e (headSpec wsX2_readNumber ({ frames := 1, cells := 0, slots := 0, locals := 20 })).room s m ([.ref (b 4), .int x1] : List Value).toArray below meth c H locs 0 0 (MQ below (va_Qi (fun r v => (r, v) = fX2_readNumber u x1) (MB D ca A (fun v => CW ca en b v)) A) ([.ref (b 4), .int x1] : List Value).toArray s 0 0 A) (F0 m 4 ls []) := by
    intro n
    induction n with
    | zero =>
      intro k hnk y2 v hci H locs hP hD hS hf ls hl
      obtain rfl : 3 = k := by omega
      obtain ⟨hc1, hc2, hc3, hc4⟩ := id hci
      refine lv_iload_n hx hb dX2_readNumber_4 rfl (lv_at hl 3 rfl) ?_
      refine lv_iload_n hx hb dX2_readNumber_5 rfl (lv_at hl 1 rfl) ?_
      refine lv_icmp_ge (tgt := 58) hx hb dX2_readNumber_6 (by decide) (fun c_6 => ?_) (fun c_6 => ?_)
      · have hf := hf.trans (if_pos c_6)
        refine lv_iload_n hx hb dX2_readNumber_58 rfl (lv_at hl 2 rfl) ?_
        exact W.iret (v := y2) hx hb hr (fun t ht hW => ⟨⟨y2, v, rfl, hf.symm, by rw [ht]; exact hP, va_K.moved hW.alike hK, hD⟩, hS.F ht⟩) hS.2.2 dX2_readNumber_59
      · exact absurd hx1 c_6
    | succ n ih =>
      intro k hnk y2 v hci H locs hP hD hS hf ls hl
      obtain ⟨hc1, hc2, hc3, hc4⟩ := id hci
      refine lv_iload_n hx hb dX2_readNumber_4 rfl (lv_at hl 3 rfl) ?_
      refine lv_iload_n hx hb dX2_readNumber_5 rfl (lv_at hl 1 rfl) ?_
      refine lv_icmp_ge (tgt := 58) hx hb dX2_readNumber_6 (by decide) (fun c_6 => ?_) (fun c_6 => ?_)
      · have hf := hf.trans (if_pos c_6)
        refine lv_iload_n hx hb dX2_readNumber_58 rfl (lv_at hl 2 rfl) ?_
        exact W.iret (v := y2) hx hb hr (fun t ht hW => ⟨⟨y2, v, rfl, hf.symm, by rw [ht]; exact hP, va_K.moved hW.alike hK, hD⟩, hS.F ht⟩) hS.2.2 dX2_readNumber_59
      · have hf := hf.trans (if_neg c_6)
        refine lv_aload_n hx hb dX2_readNumber_9 rfl (lv_at hl 0 rfl) ?_
        refine hcRi (As := []) (rest := []) 0 3 ⟨hx, hb, hml, hown, hts⟩ (kX2_standsOnDigit l D ca en ks vs b v  hci) (cwV 0 hts gX2_readNumber_X2_standsOnDigit rfl rfl rfl (by decide +kernel) ⟨Nat.le_of_ble_eq_true rfl, Nat.le_of_ble_eq_true rfl⟩) hK hP rfl rfl rfl hl.1 rfl (Nat.le_of_ble_eq_true rfl) ⟨Nat.zero_le _, Nat.zero_le _⟩ dX2_readNumber_10 ?_
        refine lv_if_eq (tgt := 58) hx hb dX2_readNumber_13 (by decide) (fun c_13 => ?_) (fun c_13 => ?_)
        · have hf := hf.trans (if_pos c_13)
          refine lv_iload_n hx hb dX2_readNumber_58 rfl (lv_at hl 2 rfl) ?_
          exact W.iret (v := y2) hx hb hr (fun t ht hW => ⟨⟨y2, v, rfl, hf.symm, by rw [ht]; exact hP, va_K.moved hW.alike hK, hD⟩, hS.F ht⟩) hS.2.2 dX2_readNumber_59
        · have hf := hf.trans (if_neg c_13)
          have hlt := standsOnDigit_lt c_13
          refine lv_iload_n hx hb dX2_readNumber_16 rfl (lv_at hl 3 rfl) ?_
          refine lv_if_ne (tgt := 24) hx hb dX2_readNumber_17 (by decide) (fun c_17 => ?_) (fun c_17 => ?_)
          · have hf := hf.trans (if_neg c_17)
            refine lv_iload_n hx hb dX2_readNumber_24 rfl (lv_at hl 2 rfl) ?_
            refine lv_bipush (v := 10) hx hb dX2_readNumber_25 (by decide) ?_
            refine lv_imul hx hb dX2_readNumber_27 ?_
            refine lv_aload_n hx hb dX2_readNumber_28 rfl (lv_at hl 0 rfl) ?_
            refine va_get (D := D) (ci := 3) (v := .ref (b 0)) (C := RX2) (T := TX2) (N := 7) hx hb hts hin hown hK hP 0 rfl rfl 0 (by decide) (hts (.fieldLink RX2 9 "HatReservations$CommandText" "characters" "[C") (by decide +kernel)) (fun _ h9 => h9) rfl dX2_readNumber_29 ?_
            refine lv_aload_n hx hb dX2_readNumber_32 rfl (lv_at hl 0 rfl) ?_
            refine va_get (D := D) (ci := 3) (v := .int (nI (q6 v))) (C := RX2) (T := TX2) (N := 7) hx hb hts hin hown hK hP 0 rfl rfl 6 (by decide) (hts (.fieldLink RX2 35 "HatReservations$CommandText" "position" "I") (by decide +kernel)) (fun _ h9 => h9) rfl dX2_readNumber_33 ?_
            refine caldN (f := q0 v) (k := (q6 v)) 1 hx hb hK hP rfl (by omega) (by decide) dX2_readNumber_36 ?_
            refine lv_bipush (v := 48) hx hb dX2_readNumber_37 (by decide) ?_
            refine lv_isub hx hb dX2_readNumber_39 ?_
            refine lv_iadd hx hb dX2_readNumber_40 ?_
            refine lv_istore_n (lv' := [(2, .int ((y2 * 10) + (((q0 v) (q6 v)) - 48))), (0, .ref (b 4)), (1, .int x1), (3, .int (nI k))]) hx hb dX2_readNumber_41 rfl hl (by decide) rfl (fun ls hl => ?_)
            refine lv_aload_n hx hb dX2_readNumber_42 rfl (lv_at hl 1 rfl) ?_
            refine lv_dup hx hb dX2_readNumber_43 rfl ?_
            refine va_get (D := D) (ci := 3) (v := .int (nI (q6 v))) (C := RX2) (T := TX2) (N := 7) hx hb hts hin hown hK hP 0 rfl rfl 6 (by decide) (hts (.fieldLink RX2 35 "HatReservations$CommandText" "position" "I") (by decide +kernel)) (fun _ h9 => h9) rfl dX2_readNumber_44 ?_
            refine lv_iconst (v := 1) hx hb dX2_readNumber_47 (by decide) ?_
            refine iaddN (a := (q6 v)) (b := 1) hx hb dX2_readNumber_48 ?_
            refine va_put (D := D) (ci := 3) (v := .int (nI ((q6 v) + 1))) (ty := .int) (C := RX2) (T := TX2) (N := 7) hx hb hts hin tyX2 tyX2_ok nmX2 hown hK hP hD hS 0 rfl rfl 6 (by decide) (hts (.fieldLink RX2 35 "HatReservations$CommandText" "position" "I") (by decide +kernel)) (fun _ h9 => h9) rfl (by decide +kernel) rfl rfl (Nat.le_of_ble_eq_true rfl) dX2_readNumber_49 (fun H locs hP hD hS => ?_)
            have hP : va_P D vwCl (CW ca en b (r6 ((q6 v) + 1) v)) H := hP
            have hD : va_D A (CW ca en b (r6 ((q6 v) + 1) v)) := hD
            refine lv_iinc (v := nI (k + 1)) (lv' := [(3, .int (nI (k + 1))), (2, .int ((y2 * 10) + (((q0 v) (q6 v)) - 48))), (0, .ref (b 4)), (1, .int x1)]) hx hb dX2_readNumber_52 hl (k := 3) rfl (nI_1 k) (by decide) rfl (fun ls hl => ?_)
            refine lv_goto (tgt := 4) hx hb dX2_readNumber_55 (by decide) ?_
            exact ih (k + 1) (by omega) ((y2 * 10) + (((q0 v) (q6 v)) - 48)) (r6 ((q6 v) + 1) v) (by first | exact hci | exact ⟨hc1, (show q6 v + 1 ≤ q1 v by omega), hc3, hc4⟩) _ _ hP hD hS hf ls (lv_sub hl [2, 3, 1, 0] rfl)
          · have hf := hf.trans (if_pos c_17)
            refine lv_iconst (v := 0) hx hb dX2_readNumber_20 (by decide) ?_
            refine lv_goto (tgt := 28) hx hb dX2_readNumber_21 (by decide) ?_
            refine lv_aload_n hx hb dX2_readNumber_28 rfl (lv_at hl 0 rfl) ?_
            refine va_get (D := D) (ci := 3) (v := .ref (b 0)) (C := RX2) (T := TX2) (N := 7) hx hb hts hin hown hK hP 0 rfl rfl 0 (by decide) (hts (.fieldLink RX2 9 "HatReservations$CommandText" "characters" "[C") (by decide +kernel)) (fun _ h9 => h9) rfl dX2_readNumber_29 ?_
            refine lv_aload_n hx hb dX2_readNumber_32 rfl (lv_at hl 0 rfl) ?_
            refine va_get (D := D) (ci := 3) (v := .int (nI (q6 v))) (C := RX2) (T := TX2) (N := 7) hx hb hts hin hown hK hP 0 rfl rfl 6 (by decide) (hts (.fieldLink RX2 35 "HatReservations$CommandText" "position" "I") (by decide +kernel)) (fun _ h9 => h9) rfl dX2_readNumber_33 ?_
            refine caldN (f := q0 v) (k := (q6 v)) 1 hx hb hK hP rfl (by omega) (by decide) dX2_readNumber_36 ?_
            refine lv_bipush (v := 48) hx hb dX2_readNumber_37 (by decide) ?_
            refine lv_isub hx hb dX2_readNumber_39 ?_
            refine lv_iadd hx hb dX2_readNumber_40 ?_
            refine lv_istore_n (lv' := [(2, .int (0 + (((q0 v) (q6 v)) - 48))), (0, .ref (b 4)), (1, .int x1), (3, .int (nI k))]) hx hb dX2_readNumber_41 rfl hl (by decide) rfl (fun ls hl => ?_)
            refine lv_aload_n hx hb dX2_readNumber_42 rfl (lv_at hl 1 rfl) ?_
            refine lv_dup hx hb dX2_readNumber_43 rfl ?_
            refine va_get (D := D) (ci := 3) (v := .int (nI (q6 v))) (C := RX2) (T := TX2) (N := 7) hx hb hts hin hown hK hP 0 rfl rfl 6 (by decide) (hts (.fieldLink RX2 35 "HatReservations$CommandText" "position" "I") (by decide +kernel)) (fun _ h9 => h9) rfl dX2_readNumber_44 ?_
            refine lv_iconst (v := 1) hx hb dX2_readNumber_47 (by decide) ?_
            refine iaddN (a := (q6 v)) (b := 1) hx hb dX2_readNumber_48 ?_
            refine va_put (D := D) (ci := 3) (v := .int (nI ((q6 v) + 1))) (ty := .int) (C := RX2) (T := TX2) (N := 7) hx hb hts hin tyX2 tyX2_ok nmX2 hown hK hP hD hS 0 rfl rfl 6 (by decide) (hts (.fieldLink RX2 35 "HatReservations$CommandText" "position" "I") (by decide +kernel)) (fun _ h9 => h9) rfl (by decide +kernel) rfl rfl (Nat.le_of_ble_eq_true rfl) dX2_readNumber_49 (fun H locs hP hD hS => ?_)
            have hP : va_P D vwCl (CW ca en b (r6 ((q6 v) + 1) v)) H := hP
            have hD : va_D A (CW ca en b (r6 ((q6 v) + 1) v)) := hD
            refine lv_iinc (v := nI (k + 1)) (lv' := [(3, .int (nI (k + 1))), (2, .int (0 + (((q0 v) (q6 v)) - 48))), (0, .ref (b 4)), (1, .int x1)]) hx hb dX2_readNumber_52 hl (k := 3) rfl (nI_1 k) (by decide) rfl (fun ls hl => ?_)
            refine lv_goto (tgt := 4) hx hb dX2_readNumber_55 (by decide) ?_
            exact ih (k + 1) (by omega) (0 + (((q0 v) (q6 v)) - 48)) (r6 ((q6 v) + 1) v) (by first | exact hci | exact ⟨hc1, (show q6 v + 1 ≤ q1 v by omega), hc3, hc4⟩) _ _ hP hD hS hf ls (lv_sub hl [2, 3, 1, 0] rfl)
  have hf : fX2_readNumber u x1 = fX2_readNumber u x1 := rfl
  refine W_entry (Nat.le_of_ble_eq_true rfl) (fun ls hl => ?_)
  have hl : lv_has ls 4 [(0, .ref (b 4)), (1, .int x1)] := hl
  refine lv_iconst (v := (-1)) hx hb dX2_readNumber_0 (by decide) ?_
  refine lv_istore_n (lv' := [(2, .int (-1)), (0, .ref (b 4)), (1, .int x1)]) hx hb dX2_readNumber_1 rfl hl (by decide) rfl (fun ls hl => ?_)
  refine lv_iconst (v := 0) hx hb dX2_readNumber_2 (by decide) ?_
  refine lv_istore_n (lv' := [(3, .int 0), (2, .int (-1)), (0, .ref (b 4)), (1, .int x1)]) hx hb dX2_readNumber_3 rfl hl (by decide) rfl (fun ls hl => ?_)
  exact cut_4 3 0 (by omega) (-1) u (by first | exact hci | exact ⟨hc1, (show q6 v + 1 ≤ q1 v by omega), hc3, hc4⟩) _ _ hP hD hS hf ls (lv_sub hl [2, 3, 1, 0] rfl)
theorem readNumber4_CI (x : Int32) : ∀ (n k : Nat) (v : CS) (y : Int32), CI v → CI (fX2_readNumber_4 n k v x y).2 := by
  intro n
  induction n with
  | zero => intro k v y h; rw [fX2_readNumber_4]; split <;> exact h
  | succ n ih =>
    intro k v y h
    obtain ⟨hc1, hc2, hc3, hc4⟩ := id h
    rw [fX2_readNumber_4]
    split
    · exact h
    · split
      · exact h
      · rename_i c
        have hlt := standsOnDigit_lt c
        split <;> exact ih _ _ _ ⟨hc1, (show q6 v + 1 ≤ q1 v by omega), hc3, hc4⟩
theorem readNumber_CI (u : CS) (x : Int32) (h : CI u) : CI (fX2_readNumber u x).2 := readNumber4_CI x 3 0 u _ h
def fX2_countMatched_5 : Nat → Nat → CS → Nat → (Nat → Int32) → Nat → Nat → Nat
  | 0, k, u, x1n, x1f, x2, y3 => y3
  | n + 1, k, u, x1n, x1f, x2, y3 => (if (q1 u) ≤ (x2 + k) then y3 else (if ((q0 u) (x2 + k)) = (x1f k &&& 255) then fX2_countMatched_5 n (k + 1) u x1n x1f x2 (y3 + 1) else y3))
def fX2_countMatched (u : CS) (x1n : Nat) (x1f : Nat → Int32) (x2 : Nat) : Nat :=
  fX2_countMatched_5 x1n 0 u x1n x1f x2 0
set_option maxHeartbeats 4000000 in
set_option maxRecDepth 100000 in
/-- countMatched -/
theorem kX2_countMatched (l : Launch) (D : va_G) (ca : Nat → ClassId) (en ks vs : Nat → Nat) (b : Nat → Nat) (u : CS) (x1 x1v x1n : Nat) (x1f : Nat → Int32) (x2 : Nat) (hci : CI u) (hx2 : x2 ≤ q1 u) (hn9 : x1n < 10) : Met l yX2_countMatched wsX2_countMatched ({ frames := 4, cells := 0, slots := 0, locals := 85 }) (RTPc D ca (CW ca en b u) x1 x1v x1n x1f [.ref (b 4), .ref x1, .int (nI x2)]) (vp_Si (fun r => r = nI (fX2_countMatched u x1n x1f x2))) 0 0 (fun _ => False) := by
  refine Met.ofW (cc := cX2_countMatched) (maxL := 6) (ret := (some .int)) (by decide) rfl ?_
  intro p e s m args below meth c s₁ B hml hv
  obtain ⟨rfl, hP, hK, hT, hXS⟩ := hv
  have hx := B.exec
  have hb := B.bytes
  have hr := B.returns
  have hts := atoms_spec (ws := wsX2_countMatched) B.pre
  have hown : s.vm.findClass RX2 = some m.cls := findClass_of_methodNamed B.named
  have hlocks := B.notSynchronized
  have hin : ∀ w ∈ wsX20, w ∈ wsX2_countMatched := by decide +kernel
  obtain ⟨hc1, hc2, hc3, hc4⟩ := id hci
  have ht31 : x1n < 2 ^ 31 := by omega
  have hS : va_S (fun _ => False) s.heap s.heap [] := va_S.rf
  have cut_5 : ∀ (n k : Nat) (hnk : n + k = x1n) (y3 : Nat) (hf : fX2_countMatched u x1n x1f x2 = fX2_countMatched_5 n k u x1n x1f x2 y3) (ls : Array Slot) (hl : lv_has ls 6 [(0, .ref (b 4)), (1, .ref x1), (2, .int (nI x2)), (3, .int (nI y3)), (4, .int (nI k))]), W p l e (headSpec wsX2_countMatched ({ frames := 4, cells := 0, slots := 0, locals := 85 })).room s m ([.ref (b 4), .ref x1, .int (nI x2)] : List Value).toArray below meth c s.heap [] 0 0 (MQ below (vp_Si (fun r => r = nI (fX2_countMatched u x1n x1f x2))) ([.ref (b 4), .ref x1, .int (nI x2)] : List Value).toArray s 0 0 (fun _ => False)) (F0 m 5 ls []) := by
    intro n
    induction n with
    | zero =>
      intro k hnk y3 hf ls hl
      obtain rfl : x1n = k := by omega
      refine lv_iload hx hb dX2_countMatched_5 (lv_at hl 4 rfl) ?_
      refine lv_aload_n hx hb dX2_countMatched_7 rfl (lv_at hl 1 rfl) ?_
      refine hcXi (As := []) (rest := [.int (nI x1n)]) ⟨hx, hb, hml, hown, hts⟩ (kJ0_length_8abf5 l x1 x1v x1n x1f ht31) (cwV 0 hts gX2_countMatched_J0_length_8abf5 rfl rfl rfl (by decide +kernel) ⟨Nat.le_of_ble_eq_true rfl, Nat.le_of_ble_eq_true rfl⟩) hS hT hXS rfl hl.1 rfl (Nat.le_of_ble_eq_true rfl) ⟨Nat.zero_le _, Nat.zero_le _⟩ dX2_countMatched_8 ?_
      refine lv_icmp_ge (tgt := 56) hx hb dX2_countMatched_11 (by decide) (fun _ => ?_) (fun q => absurd (nI_le (a := x1n) (b := x1n) (Nat.le_refl _) (by omega)) q)
      refine lv_iload_n hx hb dX2_countMatched_56 rfl (lv_at hl 3 rfl) ?_
      exact W.iret (v := nI y3) hx hb hr (fun t ht hW => ⟨nI y3, rfl, congrArg nI hf.symm, ht⟩) (fun _ h => by cases h) dX2_countMatched_57
    | succ n ih =>
      intro k hnk y3 hf ls hl
      refine lv_iload hx hb dX2_countMatched_5 (lv_at hl 4 rfl) ?_
      refine lv_aload_n hx hb dX2_countMatched_7 rfl (lv_at hl 1 rfl) ?_
      refine hcXi (As := []) (rest := [.int (nI k)]) ⟨hx, hb, hml, hown, hts⟩ (kJ0_length_8abf5 l x1 x1v x1n x1f ht31) (cwV 0 hts gX2_countMatched_J0_length_8abf5 rfl rfl rfl (by decide +kernel) ⟨Nat.le_of_ble_eq_true rfl, Nat.le_of_ble_eq_true rfl⟩) hS hT hXS rfl hl.1 rfl (Nat.le_of_ble_eq_true rfl) ⟨Nat.zero_le _, Nat.zero_le _⟩ dX2_countMatched_8 ?_
      refine lv_icmp_ge (tgt := 56) hx hb dX2_countMatched_11 (by decide) (fun q => absurd q (show ¬ (nI x1n) ≤ nI k from nI_ge (b := x1n) (by omega) (by omega))) (fun _ => ?_)
      refine lv_iload_n hx hb dX2_countMatched_14 rfl (lv_at hl 2 rfl) ?_
      refine lv_iload hx hb dX2_countMatched_15 (lv_at hl 4 rfl) ?_
      refine iaddN (a := x2) (b := k) hx hb dX2_countMatched_17 ?_
      refine lv_istore (lv' := [(5, .int (nI (x2 + k))), (0, .ref (b 4)), (1, .ref x1), (2, .int (nI x2)), (3, .int (nI y3)), (4, .int (nI k))]) hx hb dX2_countMatched_18 hl (by decide) rfl (fun ls hl => ?_)
      refine lv_iload hx hb dX2_countMatched_20 (lv_at hl 0 rfl) ?_
      refine lv_aload_n hx hb dX2_countMatched_22 rfl (lv_at hl 1 rfl) ?_
      refine va_get (D := D) (ci := 3) (v := .int (nI (q1 u))) (C := RX2) (T := TX2) (N := 7) hx hb hts hin hown hK hP 0 rfl rfl 1 (by decide) (hts (.fieldLink RX2 15 "HatReservations$CommandText" "length" "I") (by decide +kernel)) (fun _ h9 => h9) rfl dX2_countMatched_23 ?_
      refine icmpgeN (a := (x2 + k)) (b := (q1 u)) (tgt := 45) hx hb dX2_countMatched_26 (by decide) (by omega) (by omega) (fun c_26 => ?_) (fun c_26 => ?_)
      · have hf := hf.trans (if_pos c_26)
        refine lv_iload_n hx hb dX2_countMatched_45 rfl (lv_at hl 4 rfl) ?_
        exact W.iret (v := nI y3) hx hb hr (fun t ht hW => ⟨nI y3, rfl, congrArg nI hf.symm, ht⟩) (fun _ h => by cases h) dX2_countMatched_46
      · have hf := hf.trans (if_neg c_26)
        refine lv_aload_n hx hb dX2_countMatched_29 rfl (lv_at hl 1 rfl) ?_
        refine va_get (D := D) (ci := 3) (v := .ref (b 0)) (C := RX2) (T := TX2) (N := 7) hx hb hts hin hown hK hP 0 rfl rfl 0 (by decide) (hts (.fieldLink RX2 9 "HatReservations$CommandText" "characters" "[C") (by decide +kernel)) (fun _ h9 => h9) rfl dX2_countMatched_30 ?_
        refine lv_iload hx hb dX2_countMatched_33 (lv_at hl 0 rfl) ?_
        refine caldN (f := q0 u) (k := (x2 + k)) 1 hx hb hK hP rfl (by omega) (by decide) dX2_countMatched_35 ?_
        refine lv_aload_n hx hb dX2_countMatched_36 rfl (lv_at hl 2 rfl) ?_
        refine lv_iload hx hb dX2_countMatched_37 (lv_at hl 5 rfl) ?_
        refine hcXi (As := [.int (nI k)]) (rest := [.int ((q0 u) (x2 + k))]) ⟨hx, hb, hml, hown, hts⟩ (kJ0_charAt_5068e l x1 x1v x1n x1f k (by omega) ht31) (cwV 1 hts gX2_countMatched_J0_charAt_5068e rfl rfl rfl (by decide +kernel) ⟨Nat.le_of_ble_eq_true rfl, Nat.le_of_ble_eq_true rfl⟩) hS hT hXS rfl hl.1 rfl (Nat.le_of_ble_eq_true rfl) ⟨Nat.zero_le _, Nat.zero_le _⟩ dX2_countMatched_39 ?_
        refine lv_icmp_eq (tgt := 47) hx hb dX2_countMatched_42 (by decide) (fun c_42 => ?_) (fun c_42 => ?_)
        · have hf := hf.trans (if_pos c_42)
          refine lv_iinc (v := nI (y3 + 1)) (lv' := [(3, .int (nI (y3 + 1))), (5, .int (nI (x2 + k))), (0, .ref (b 4)), (1, .ref x1), (2, .int (nI x2)), (4, .int (nI k))]) hx hb dX2_countMatched_47 hl (k := 4) rfl (nI_1 y3) (by decide) rfl (fun ls hl => ?_)
          refine lv_iinc (v := nI (k + 1)) (lv' := [(4, .int (nI (k + 1))), (3, .int (nI (y3 + 1))), (5, .int (nI (x2 + k))), (0, .ref (b 4)), (1, .ref x1), (2, .int (nI x2))]) hx hb dX2_countMatched_50 hl (k := 5) rfl (nI_1 k) (by decide) rfl (fun ls hl => ?_)
          refine lv_goto (tgt := 5) hx hb dX2_countMatched_53 (by decide) ?_
          exact ih (k + 1) (by omega) (y3 + 1)  hf ls (lv_sub hl [3, 4, 5, 1, 0] rfl)
        · have hf := hf.trans (if_neg c_42)
          refine lv_iload_n hx hb dX2_countMatched_45 rfl (lv_at hl 4 rfl) ?_
          exact W.iret (v := nI y3) hx hb hr (fun t ht hW => ⟨nI y3, rfl, congrArg nI hf.symm, ht⟩) (fun _ h => by cases h) dX2_countMatched_46
  have hf : fX2_countMatched u x1n x1f x2 = fX2_countMatched u x1n x1f x2 := rfl
  refine W_entry (Nat.le_of_ble_eq_true rfl) (fun ls hl => ?_)
  have hl : lv_has ls 6 [(0, .ref (b 4)), (1, .ref x1), (2, .int (nI x2))] := hl
  refine lv_iconst (v := 0) hx hb dX2_countMatched_0 (by decide) ?_
  refine lv_istore_n (lv' := [(3, .int 0), (0, .ref (b 4)), (1, .ref x1), (2, .int (nI x2))]) hx hb dX2_countMatched_1 rfl hl (by decide) rfl (fun ls hl => ?_)
  refine lv_iconst (v := 0) hx hb dX2_countMatched_2 (by decide) ?_
  refine lv_istore (lv' := [(4, .int 0), (3, .int 0), (0, .ref (b 4)), (1, .ref x1), (2, .int (nI x2))]) hx hb dX2_countMatched_3 hl (by decide) rfl (fun ls hl => ?_)
  exact cut_5 x1n 0 (by omega) 0  hf ls (lv_sub hl [2, 3, 4, 1, 0] rfl)
theorem countMatched5_le (u : CS) (m : Nat) (f : Nat → Int32) (x : Nat) : ∀ (n k y : Nat), y = k → x + y ≤ q1 u → x + fX2_countMatched_5 n k u m f x y ≤ q1 u := by
  intro n
  induction n with
  | zero => intro k y _ h; exact h
  | succ n ih =>
    intro k y e h
    rw [fX2_countMatched_5]
    split
    · exact h
    · split
      · exact ih (k + 1) (y + 1) (by omega) (by omega)
      · exact h
theorem countMatched_le {u : CS} {m : Nat} {f : Nat → Int32} {x : Nat} (h : x ≤ q1 u) : x + fX2_countMatched u m f x ≤ q1 u := countMatched5_le u m f x m 0 0 rfl h
def optE {R : Type} (o : Option Nat) (a : R) (f : Nat → R) : R := match o with | none => a | some j => f j
theorem opt_none {R : Type} {o : Option Nat} {a : R} {f : Nat → R} (h : o = none) : optE o a f = a := by rw [h]; rfl
theorem opt_some {R : Type} {o : Option Nat} {a : R} {f : Nat → R} {j : Nat} (h : o = some j) : optE o a f = f j := by rw [h]; rfl
def fX2_readKeyword_7 : Nat → Nat → CS → Nat → Option Nat × CS
  | 0, k, v, y1 => (none, v)
  | n + 1, k, v, y1 => (if (fX2_countMatched v (kwL k) (kwF k) y1) = (kwL k) then (some k, r6 (if (q6 v) < (y1 + (fX2_countMatched v (kwL k) (kwF k) y1)) then (y1 + (fX2_countMatched v (kwL k) (kwF k) y1)) else (q6 v)) v) else fX2_readKeyword_7 n (k + 1) (r6 (if (q6 v) < (y1 + (fX2_countMatched v (kwL k) (kwF k) y1)) then (y1 + (fX2_countMatched v (kwL k) (kwF k) y1)) else (q6 v)) v) y1)
def fX2_readKeyword (u : CS) : Option Nat × CS :=
  fX2_readKeyword_7 10 0 u (q6 u)
set_option maxHeartbeats 4000000 in
set_option maxRecDepth 100000 in
/-- readKeyword -/
theorem kX2_readKeyword (l : Launch) (D : va_G) (ca : Nat → ClassId) (en ks vs : Nat → Nat) (b : Nat → Nat) (sz : Nat) (u : CS) (hci : CI u) : Met l yX2_readKeyword wsX2_readKeyword ({ frames := 5, cells := 0, slots := 0, locals := 110 }) (MGPc D ca (KX en ks vs) sz (CW ca en b u) [.ref (b 4)]) (va_Qe en (fun r v => (r, v) = fX2_readKeyword u) (MB D ca (va_A (CW ca en b u) sz) (fun v => CW ca en b v)) (va_A (CW ca en b u) sz)) 0 0 (va_A (CW ca en b u) sz) := by
  refine Met.ofW (cc := cX2_readKeyword) (maxL := 5) (ret := (some (.object "HatReservations$Command"))) (by decide) rfl ?_
  intro p e s m args below meth c s₁ B hml hv
  obtain ⟨rfl, hsz, hP, hK, hD0, hX⟩ := hv
  have hx := B.exec
  have hb := B.bytes
  have hr := B.returns
  have hts := atoms_spec (ws := wsX2_readKeyword) B.pre
  have hown : s.vm.findClass RX2 = some m.cls := findClass_of_methodNamed B.named
  have hlocks := B.notSynchronized
  have hin : ∀ w ∈ wsX20, w ∈ wsX2_readKeyword := by decide +kernel
  obtain ⟨hc1, hc2, hc3, hc4⟩ := id hci
  subst hsz
  have hD := hD0.self (sz := s.heap.size)
  generalize hAe : va_A (CW ca en b u) s.heap.size = A at hD hX ⊢
  have hA : ∀ q : Nat, s.heap.size ≤ q → A q := fun q h => by rw [← hAe]; exact Or.inr h
  have hS : va_S A s.heap s.heap [] := va_S.rf
  have cut_7 : ∀ (n k : Nat) (hnk : n + k = 10) (y1 : Nat) (v : CS) (hci : CI v) (hy : y1 ≤ q1 v) (H : Heap) (locs : List Loc) (hP : va_P D vwCl (CW ca en b v) H) (hD : va_D A (CW ca en b v)) (hS : va_S A s.heap H locs) (hf : fX2_readKeyword u = fX2_readKeyword_7 n k v y1) (ls : Array Slot) (hl : lv_has ls 5 [(0, .ref (b 4)), (1, .int (nI y1)), (2, .int (nI k))]), W p l e (headSpec wsX2_readKeyword ({ frames := 5, cells := 0, slots := 0, locals := 110 })).room s m ([.ref (b 4)] : List Value).toArray below meth c H locs 0 0 (MQ below (va_Qe en (fun r v => (r, v) = fX2_readKeyword u) (MB D ca A (fun v => CW ca en b v)) A) ([.ref (b 4)] : List Value).toArray s 0 0 A) (F0 m 7 ls []) := by
    intro n
    induction n with
    | zero =>
      intro k hnk y1 v hci hy H locs hP hD hS hf ls hl
      obtain rfl : 10 = k := by omega
      obtain ⟨hc1, hc2, hc3, hc4⟩ := id hci
      refine lv_iload_n hx hb dX2_readKeyword_7 rfl (lv_at hl 2 rfl) ?_
      obtain ⟨tC, hZC, hTC⟩ := hX.2.2.2.1
      refine va_getsN hx hb hZC hS hown (va_Nw.use rfl hX.2.2.2.2.2) (fun _ h9 => h9) dX2_readKeyword_8 ?_
      refine va_tlen hx hb hTC hS (v := nI 10) rfl dX2_readKeyword_11 ?_
      refine lv_icmp_ge (tgt := 67) hx hb dX2_readKeyword_12 (by decide) (fun _ => ?_) (fun q => absurd (nI_le (a := 10) (b := 10) (Nat.le_refl _) (by omega)) q)
      refine lv_null hx hb dX2_readKeyword_67 ?_
      exact W.aret (v := .null) hx hb hr (Or.inl ⟨_, rfl⟩) (Or.inl rfl) (fun t ht hW => ⟨⟨none, v, rfl, hf.symm, by rw [ht]; exact hP, va_K.moved hW.alike hK, hD⟩, hS.F ht⟩) hS.2.2 dX2_readKeyword_68
    | succ n ih =>
      intro k hnk y1 v hci hy H locs hP hD hS hf ls hl
      obtain ⟨hc1, hc2, hc3, hc4⟩ := id hci
      refine lv_iload_n hx hb dX2_readKeyword_7 rfl (lv_at hl 2 rfl) ?_
      obtain ⟨tC, hZC, hTC⟩ := hX.2.2.2.1
      refine va_getsN hx hb hZC hS hown (va_Nw.use rfl hX.2.2.2.2.2) (fun _ h9 => h9) dX2_readKeyword_8 ?_
      refine va_tlen hx hb hTC hS (v := nI 10) rfl dX2_readKeyword_11 ?_
      refine lv_icmp_ge (tgt := 67) hx hb dX2_readKeyword_12 (by decide) (fun q => absurd q (show ¬ (nI 10) ≤ nI k from nI_ge (b := 10) (by omega) (by omega))) (fun _ => ?_)
      obtain ⟨tC, hZC, hTC⟩ := hX.2.2.2.1
      refine va_getsN hx hb hZC hS hown (va_Nw.use rfl hX.2.2.2.2.2) (fun _ h9 => h9) dX2_readKeyword_15 ?_
      refine lv_iload_n hx hb dX2_readKeyword_18 rfl (lv_at hl 2 rfl) ?_
      refine vb_tq hx hb hTC hS (vp_in_nI (by omega) (by decide)) (v := .ref (en k)) (by rw [nI_clamp (by omega)]) dX2_readKeyword_19 ?_
      refine lv_astore_n (lv' := [(3, .ref (en k)), (0, .ref (b 4)), (1, .int (nI y1)), (2, .int (nI k))]) hx hb dX2_readKeyword_20 rfl hl (by decide) rfl (fun ls hl => ?_)
      refine lv_aload_n hx hb dX2_readKeyword_21 rfl (lv_at hl 1 rfl) ?_
      refine lv_aload_n hx hb dX2_readKeyword_22 rfl (lv_at hl 0 rfl) ?_
      refine vk_getf hx hb (hX.2.2.1 k (show k < kNM.length by show k < 10; omega)).1 hS hown (hts (.fieldLink RX2 71 "HatReservations$Command" "keyword" "Ljava/lang/String;") (by decide +kernel)) (fun _ h9 => h9) dX2_readKeyword_23 ?_
      refine lv_iload_n hx hb dX2_readKeyword_26 rfl (lv_at hl 2 rfl) ?_
      refine hcRTi (As := [.ref (ks k), .int (nI y1)]) (rest := []) 0 3 ⟨hx, hb, hml, hown, hts⟩ (kX2_countMatched l D ca en ks vs b v (ks k) (vs k) (kwL k) (kwF k) y1 hci hy (kwL_lt _)) (cwV 2 hts gX2_readKeyword_X2_countMatched rfl rfl rfl (by decide +kernel) ⟨Nat.le_of_ble_eq_true rfl, Nat.le_of_ble_eq_true rfl⟩) hK hP hS (hX.2.2.1 k (show k < kNM.length by show k < 10; omega)).2 hX.1 rfl rfl rfl hl.1 rfl (Nat.le_of_ble_eq_true rfl) ⟨Nat.zero_le _, Nat.zero_le _⟩ dX2_readKeyword_27 ?_
      have hm := countMatched_le (u := v) (m := kwL k) (f := kwF k) hy
      refine lv_istore (lv' := [(4, .int (nI (fX2_countMatched v (kwL k) (kwF k) y1))), (3, .ref (en k)), (0, .ref (b 4)), (1, .int (nI y1)), (2, .int (nI k))]) hx hb dX2_readKeyword_30 hl (by decide) rfl (fun ls hl => ?_)
      refine lv_aload_n hx hb dX2_readKeyword_32 rfl (lv_at hl 2 rfl) ?_
      refine lv_aload_n hx hb dX2_readKeyword_33 rfl (lv_at hl 2 rfl) ?_
      refine va_get (D := D) (ci := 3) (v := .int (nI (q6 v))) (C := RX2) (T := TX2) (N := 7) hx hb hts hin hown hK hP 0 rfl rfl 6 (by decide) (hts (.fieldLink RX2 35 "HatReservations$CommandText" "position" "I") (by decide +kernel)) (fun _ h9 => h9) rfl dX2_readKeyword_34 ?_
      refine lv_iload_n hx hb dX2_readKeyword_37 rfl (lv_at hl 3 rfl) ?_
      refine lv_iload hx hb dX2_readKeyword_38 (lv_at hl 0 rfl) ?_
      refine iaddN (a := y1) (b := (fX2_countMatched v (kwL k) (kwF k) y1)) hx hb dX2_readKeyword_40 ?_
      refine maxN (a := (q6 v)) (b := (y1 + (fX2_countMatched v (kwL k) (kwF k) y1))) hx hb (by rw [hml]; exact hl.1.symm) hown (hts (.methodLink RX2 79 Lib.Math.max.name) (by decide +kernel)) (hts (.static Lib.Math.max.name) (by decide +kernel)) (hts (.initialized "java/lang/Math") (by decide +kernel)) (hts (.code Lib.Math.max.name Lib.Math.max.code 2 (some .int)) (by decide +kernel)) (Nat.le_of_ble_eq_true rfl) (Nat.le_of_ble_eq_true rfl) (Nat.zero_le _) (Nat.zero_le _) (by omega) (by omega) dX2_readKeyword_41 ?_
      refine va_put (D := D) (ci := 3) (v := .int (nI (if (q6 v) < (y1 + (fX2_countMatched v (kwL k) (kwF k) y1)) then (y1 + (fX2_countMatched v (kwL k) (kwF k) y1)) else (q6 v)))) (ty := .int) (C := RX2) (T := TX2) (N := 7) hx hb hts hin tyX2 tyX2_ok nmX2 hown hK hP hD hS 0 rfl rfl 6 (by decide) (hts (.fieldLink RX2 35 "HatReservations$CommandText" "position" "I") (by decide +kernel)) (fun _ h9 => h9) rfl (by decide +kernel) rfl rfl (Nat.le_of_ble_eq_true rfl) dX2_readKeyword_44 (fun H locs hP hD hS => ?_)
      have hP : va_P D vwCl (CW ca en b (r6 (if (q6 v) < (y1 + (fX2_countMatched v (kwL k) (kwF k) y1)) then (y1 + (fX2_countMatched v (kwL k) (kwF k) y1)) else (q6 v)) v)) H := hP
      have hD : va_D A (CW ca en b (r6 (if (q6 v) < (y1 + (fX2_countMatched v (kwL k) (kwF k) y1)) then (y1 + (fX2_countMatched v (kwL k) (kwF k) y1)) else (q6 v)) v)) := hD
      refine lv_iload hx hb dX2_readKeyword_47 (lv_at hl 0 rfl) ?_
      refine lv_aload_n hx hb dX2_readKeyword_49 rfl (lv_at hl 1 rfl) ?_
      refine vk_getf hx hb (hX.2.2.1 k (show k < kNM.length by show k < 10; omega)).1 hS hown (hts (.fieldLink RX2 71 "HatReservations$Command" "keyword" "Ljava/lang/String;") (by decide +kernel)) (fun _ h9 => h9) dX2_readKeyword_50 ?_
      have hk9 := kwL_lt k
      refine hcXi (As := []) (rest := [.int (nI (fX2_countMatched v (kwL k) (kwF k) y1))]) ⟨hx, hb, hml, hown, hts⟩ (kJ0_length_8abf5 l (ks k) (vs k) (kwL k) (kwF k) (Nat.lt_trans (kwL_lt k) (by decide))) (cwV 0 hts gX2_readKeyword_J0_length_8abf5 rfl rfl rfl (by decide +kernel) ⟨Nat.le_of_ble_eq_true rfl, Nat.le_of_ble_eq_true rfl⟩) hS (hX.2.2.1 k (show k < kNM.length by show k < 10; omega)).2 hX.1 rfl hl.1 rfl (Nat.le_of_ble_eq_true rfl) ⟨Nat.zero_le _, Nat.zero_le _⟩ dX2_readKeyword_53 ?_
      refine icmpneN (a := (fX2_countMatched v (kwL k) (kwF k) y1)) (b := (kwL k)) (tgt := 61) hx hb dX2_readKeyword_56 (by decide) (by omega) (by omega) (fun c_56 => ?_) (fun c_56 => ?_)
      · have hf := hf.trans (if_neg c_56)
        refine lv_iinc (v := nI (k + 1)) (lv' := [(2, .int (nI (k + 1))), (4, .int (nI (fX2_countMatched v (kwL k) (kwF k) y1))), (3, .ref (en k)), (0, .ref (b 4)), (1, .int (nI y1))]) hx hb dX2_readKeyword_61 hl (k := 4) rfl (nI_1 k) (by decide) rfl (fun ls hl => ?_)
        refine lv_goto (tgt := 7) hx hb dX2_readKeyword_64 (by decide) ?_
        exact ih (k + 1) (by omega) y1 (r6 (if (q6 v) < (y1 + (fX2_countMatched v (kwL k) (kwF k) y1)) then (y1 + (fX2_countMatched v (kwL k) (kwF k) y1)) else (q6 v)) v) (by first | exact hci | exact ⟨hc1, (show (if _ then _ else _) ≤ q1 v by split <;> omega), hc3, hc4⟩) (by first | exact hy | exact hc2) _ _ hP hD hS hf ls (lv_sub hl [3, 4, 0] rfl)
      · have hf := hf.trans (if_pos c_56)
        refine lv_aload_n hx hb dX2_readKeyword_59 rfl (lv_at hl 1 rfl) ?_
        exact W.aret (v := (.ref (en k))) hx hb hr (Or.inl ⟨_, rfl⟩) (Or.inr ⟨_, rfl⟩) (fun t ht hW => ⟨⟨some k, r6 (if (q6 v) < (y1 + (fX2_countMatched v (kwL k) (kwF k) y1)) then (y1 + (fX2_countMatched v (kwL k) (kwF k) y1)) else (q6 v)) v, rfl, hf.symm, by rw [ht]; exact hP, va_K.moved hW.alike hK, hD⟩, hS.F ht⟩) hS.2.2 dX2_readKeyword_60
  have hf : fX2_readKeyword u = fX2_readKeyword u := rfl
  refine W_entry (Nat.le_of_ble_eq_true rfl) (fun ls hl => ?_)
  have hl : lv_has ls 5 [(0, .ref (b 4))] := hl
  refine lv_aload_n hx hb dX2_readKeyword_0 rfl (lv_at hl 0 rfl) ?_
  refine va_get (D := D) (ci := 3) (v := .int (nI (q6 u))) (C := RX2) (T := TX2) (N := 7) hx hb hts hin hown hK hP 0 rfl rfl 6 (by decide) (hts (.fieldLink RX2 35 "HatReservations$CommandText" "position" "I") (by decide +kernel)) (fun _ h9 => h9) rfl dX2_readKeyword_1 ?_
  refine lv_istore_n (lv' := [(1, .int (nI (q6 u))), (0, .ref (b 4))]) hx hb dX2_readKeyword_4 rfl hl (by decide) rfl (fun ls hl => ?_)
  refine lv_iconst (v := 0) hx hb dX2_readKeyword_5 (by decide) ?_
  refine lv_istore_n (lv' := [(2, .int 0), (1, .int (nI (q6 u))), (0, .ref (b 4))]) hx hb dX2_readKeyword_6 rfl hl (by decide) rfl (fun ls hl => ?_)
  exact cut_7 10 0 (by omega) (q6 u) u (by first | exact hci | exact ⟨hc1, (show (if _ then _ else _) ≤ q1 v by split <;> omega), hc3, hc4⟩) (by first | exact hy | exact hc2) _ _ hP hD hS hf ls (lv_sub hl [2, 1, 0] rfl)
theorem readKeyword7_CI : ∀ (n k : Nat) (v : CS) (y : Nat), CI v → y ≤ q1 v → CI (fX2_readKeyword_7 n k v y).2 := by
  intro n
  induction n with
  | zero => intro k v y h _; exact h
  | succ n ih =>
    intro k v y h hy
    obtain ⟨hc1, hc2, hc3, hc4⟩ := id h
    have hm := countMatched_le (u := v) (m := kwL k) (f := kwF k) hy
    have h' : CI (r6 (if q6 v < y + fX2_countMatched v (kwL k) (kwF k) y then y + fX2_countMatched v (kwL k) (kwF k) y else q6 v) v) := ⟨hc1, (show (if _ then _ else _) ≤ q1 v by split <;> omega), hc3, hc4⟩
    rw [fX2_readKeyword_7]
    split
    · exact h'
    · exact ih (k + 1) _ y h' hy
theorem readKeyword_CI (u : CS) (_ : Unit) (h : CI u) : CI (fX2_readKeyword u).2 := readKeyword7_CI 10 0 u _ h h.2.1
theorem readKeyword7_lt {j : Nat} : ∀ (n k : Nat) (v : CS) (y : Nat), n + k = 10 → (fX2_readKeyword_7 n k v y).1 = some j → j < 10 := by
  intro n
  induction n with
  | zero => intro k v y _ h; cases h
  | succ n ih =>
    intro k v y hk h
    rw [fX2_readKeyword_7] at h
    split at h
    · cases h; omega
    · exact ih (k + 1) _ y (by omega) h
theorem readKeyword_lt {u : CS} {j : Nat} (h : (fX2_readKeyword u).1 = some j) : j < 10 := readKeyword7_lt 10 0 u _ rfl h
theorem kFD_le : ∀ j, kFD.getD j 0 ≤ 3 := by
  intro j
  match j with
  | 0 | 1 | 2 | 3 | 4 | 5 | 6 | 7 | 8 | 9 => decide
  | n + 10 => exact (show (0 : Int32) ≤ 3 by decide)
theorem kSD_le : ∀ j, kSD.getD j 0 ≤ 3 := by
  intro j
  match j with
  | 0 | 1 | 2 | 3 | 4 | 5 | 6 | 7 | 8 | 9 => decide
  | n + 10 => exact (show (0 : Int32) ≤ 3 by decide)
theorem readSign_q5 (u : CS) (x : Int32) : q5 (fX2_readSign u x).2 = q5 u := by
  unfold fX2_readSign
  split
  · rfl
  · split <;> rfl
theorem readNumber4_q5 (x : Int32) : ∀ (n k : Nat) (v : CS) (y : Int32), q5 (fX2_readNumber_4 n k v x y).2 = q5 v := by
  intro n
  induction n with
  | zero => intro k v y; rw [fX2_readNumber_4]; split <;> rfl
  | succ n ih =>
    intro k v y
    rw [fX2_readNumber_4]
    split
    · rfl
    · split
      · rfl
      · split <;> exact ih _ _ _
theorem readNumber_q5 (u : CS) (x : Int32) : q5 (fX2_readNumber u x).2 = q5 u := readNumber4_q5 x 3 0 u _
theorem readKeyword7_q5 : ∀ (n k : Nat) (v : CS) (y : Nat), q5 (fX2_readKeyword_7 n k v y).2 = q5 v := by
  intro n
  induction n with
  | zero => intro k v y; rfl
  | succ n ih =>
    intro k v y
    rw [fX2_readKeyword_7]
    split
    · rfl
    · exact ih _ _ _
theorem readKeyword_q5 (u : CS) : q5 (fX2_readKeyword u).2 = q5 u := readKeyword7_q5 10 0 u _
theorem up_lt {f : Nat → Nat} {i j : Nat} (h : ∀ k, f k < 10) (hj : j < 10) : ∀ k, va_up f i j k < 10 := by
  intro k
  unfold va_up
  split
  · exact hj
  · exact h k
def fX2_readCommand (u : CS) (x1 : Nat) : Int32 × CS :=
  (optE ((fX2_readKeyword u).1) (0, (fX2_readKeyword u).2) (fun jE => (if ((fX2_readNumber ((fX2_readKeyword u).2) (kFD.getD jE 0)).1) = (-1) then (0, (fX2_readNumber ((fX2_readKeyword u).2) (kFD.getD jE 0)).2) else (if (kSP.getD jE 0) = 0 then (if (kSD.getD jE 0) = 0 then (1, r4 (upd (q4 ((fX2_readNumber ((fX2_readKeyword u).2) (kFD.getD jE 0)).2)) x1 0) (r3 (upd (q3 ((fX2_readNumber ((fX2_readKeyword u).2) (kFD.getD jE 0)).2)) x1 ((fX2_readNumber ((fX2_readKeyword u).2) (kFD.getD jE 0)).1)) (r2 (va_up (q2 ((fX2_readNumber ((fX2_readKeyword u).2) (kFD.getD jE 0)).2)) x1 jE) ((fX2_readNumber ((fX2_readKeyword u).2) (kFD.getD jE 0)).2)))) else (if ((fX2_readNumber ((fX2_readNumber ((fX2_readKeyword u).2) (kFD.getD jE 0)).2) (kSD.getD jE 0)).1) = (-1) then (0, (fX2_readNumber ((fX2_readNumber ((fX2_readKeyword u).2) (kFD.getD jE 0)).2) (kSD.getD jE 0)).2) else (1, r4 (upd (q4 ((fX2_readNumber ((fX2_readNumber ((fX2_readKeyword u).2) (kFD.getD jE 0)).2) (kSD.getD jE 0)).2)) x1 ((fX2_readNumber ((fX2_readNumber ((fX2_readKeyword u).2) (kFD.getD jE 0)).2) (kSD.getD jE 0)).1)) (r3 (upd (q3 ((fX2_readNumber ((fX2_readNumber ((fX2_readKeyword u).2) (kFD.getD jE 0)).2) (kSD.getD jE 0)).2)) x1 ((fX2_readNumber ((fX2_readKeyword u).2) (kFD.getD jE 0)).1)) (r2 (va_up (q2 ((fX2_readNumber ((fX2_readNumber ((fX2_readKeyword u).2) (kFD.getD jE 0)).2) (kSD.getD jE 0)).2)) x1 jE) ((fX2_readNumber ((fX2_readNumber ((fX2_readKeyword u).2) (kFD.getD jE 0)).2) (kSD.getD jE 0)).2)))))) else (if ((fX2_readSign ((fX2_readNumber ((fX2_readKeyword u).2) (kFD.getD jE 0)).2) 32).1) = 0 then (0, (fX2_readSign ((fX2_readNumber ((fX2_readKeyword u).2) (kFD.getD jE 0)).2) 32).2) else (if (kSD.getD jE 0) = 0 then (1, r4 (upd (q4 ((fX2_readSign ((fX2_readNumber ((fX2_readKeyword u).2) (kFD.getD jE 0)).2) 32).2)) x1 0) (r3 (upd (q3 ((fX2_readSign ((fX2_readNumber ((fX2_readKeyword u).2) (kFD.getD jE 0)).2) 32).2)) x1 ((fX2_readNumber ((fX2_readKeyword u).2) (kFD.getD jE 0)).1)) (r2 (va_up (q2 ((fX2_readSign ((fX2_readNumber ((fX2_readKeyword u).2) (kFD.getD jE 0)).2) 32).2)) x1 jE) ((fX2_readSign ((fX2_readNumber ((fX2_readKeyword u).2) (kFD.getD jE 0)).2) 32).2)))) else (if ((fX2_readNumber ((fX2_readSign ((fX2_readNumber ((fX2_readKeyword u).2) (kFD.getD jE 0)).2) 32).2) (kSD.getD jE 0)).1) = (-1) then (0, (fX2_readNumber ((fX2_readSign ((fX2_readNumber ((fX2_readKeyword u).2) (kFD.getD jE 0)).2) 32).2) (kSD.getD jE 0)).2) else (1, r4 (upd (q4 ((fX2_readNumber ((fX2_readSign ((fX2_readNumber ((fX2_readKeyword u).2) (kFD.getD jE 0)).2) 32).2) (kSD.getD jE 0)).2)) x1 ((fX2_readNumber ((fX2_readSign ((fX2_readNumber ((fX2_readKeyword u).2) (kFD.getD jE 0)).2) 32).2) (kSD.getD jE 0)).1)) (r3 (upd (q3 ((fX2_readNumber ((fX2_readSign ((fX2_readNumber ((fX2_readKeyword u).2) (kFD.getD jE 0)).2) 32).2) (kSD.getD jE 0)).2)) x1 ((fX2_readNumber ((fX2_readKeyword u).2) (kFD.getD jE 0)).1)) (r2 (va_up (q2 ((fX2_readNumber ((fX2_readSign ((fX2_readNumber ((fX2_readKeyword u).2) (kFD.getD jE 0)).2) 32).2) (kSD.getD jE 0)).2)) x1 jE) ((fX2_readNumber ((fX2_readSign ((fX2_readNumber ((fX2_readKeyword u).2) (kFD.getD jE 0)).2) 32).2) (kSD.getD jE 0)).2)))))))))))
set_option maxHeartbeats 4000000 in
set_option maxRecDepth 100000 in
/-- readCommand -/
theorem kX2_readCommand (l : Launch) (D : va_G) (ca : Nat → ClassId) (en ks vs : Nat → Nat) (b : Nat → Nat) (sz : Nat) (u : CS) (x1 : Nat) (hci : CI u) (hx1 : x1 < 10) : Met l yX2_readCommand wsX2_readCommand ({ frames := 6, cells := 0, slots := 0, locals := 134 }) (MGPc D ca (KX en ks vs) sz (CW ca en b u) [.ref (b 4), .int (nI x1)]) (va_Qi (fun r v => (r, v) = fX2_readCommand u x1) (MB D ca (va_A (CW ca en b u) sz) (fun v => CW ca en b v)) (va_A (CW ca en b u) sz)) 0 0 (va_A (CW ca en b u) sz) := by
  refine Met.ofW (cc := cX2_readCommand) (maxL := 5) (ret := (some .boolean)) (by decide) rfl ?_
  intro p e s m args below meth c s₁ B hml hv
  obtain ⟨rfl, hsz, hP, hK, hD0, hX⟩ := hv
  have hx := B.exec
  have hb := B.bytes
  have hr := B.returns
  have hts := atoms_spec (ws := wsX2_readCommand) B.pre
  have hown : s.vm.findClass RX2 = some m.cls := findClass_of_methodNamed B.named
  have hlocks := B.notSynchronized
  have hin : ∀ w ∈ wsX20, w ∈ wsX2_readCommand := by decide +kernel
  obtain ⟨hc1, hc2, hc3, hc4⟩ := id hci
  subst hsz
  have hD := hD0.self (sz := s.heap.size)
  generalize hAe : va_A (CW ca en b u) s.heap.size = A at hD hX ⊢
  have hA : ∀ q : Nat, s.heap.size ≤ q → A q := fun q h => by rw [← hAe]; exact Or.inr h
  have hS : va_S A s.heap s.heap [] := va_S.rf
  have hf : fX2_readCommand u x1 = fX2_readCommand u x1 := rfl
  refine W_entry (Nat.le_of_ble_eq_true rfl) (fun ls hl => ?_)
  have hl : lv_has ls 5 [(0, .ref (b 4)), (1, .int (nI x1))] := hl
  refine lv_aload_n hx hb dX2_readCommand_0 rfl (lv_at hl 0 rfl) ?_
  refine hcGMe (As := []) (rest := []) (wr := []) (f := fun v => CW ca en b v) (F := fX2_readKeyword u) 0 3 (KX_ok en ks vs) ⟨hx, hb, hml, hown, hts⟩ (kX2_readKeyword l D ca en ks vs b _ u  hci) (cwV 0 hts gX2_readCommand_X2_readKeyword rfl rfl rfl (by decide +kernel) ⟨Nat.le_of_ble_eq_true rfl, Nat.le_of_ble_eq_true rfl⟩) hK hP hD hS hA hX (List.Perm.refl _) rfl rfl rfl hl.1 rfl (Nat.le_of_ble_eq_true rfl) ⟨Nat.zero_le _, Nat.zero_le _⟩ dX2_readCommand_1 (fun H locs hP hD hS => ?_)
  have hP : va_P D vwCl (CW ca en b ((fX2_readKeyword u).2)) H := hP
  have hD : va_D A (CW ca en b ((fX2_readKeyword u).2)) := hD
  have hci : CI ((fX2_readKeyword u).2) := readKeyword_CI _ () hci
  obtain ⟨hc1, hc2, hc3, hc4⟩ := id hci
  rcases hR : (fX2_readKeyword u).1 with _ | jE
  · refine W.eq (g2 := F0 m 4 ls [.null]) rfl ?_
    have hf := hf.trans (opt_none hR)
    refine lv_astore_nN (lv' := [(2, .null), (0, .ref (b 4)), (1, .int (nI x1))]) hx hb dX2_readCommand_4 rfl hl (by decide) rfl (fun ls hl => ?_)
    refine lv_aload_nN hx hb dX2_readCommand_5 rfl (lv_at hl 0 rfl) ?_
    refine lv_ifnonnullN hx hb dX2_readCommand_6 ?_
    refine lv_iconst (v := 0) hx hb dX2_readCommand_9 (by decide) ?_
    exact W.zret (ty := .boolean) (v := 0) hx hb hr (by decide) (fun t ht hW => ⟨⟨0, (fX2_readKeyword u).2, rfl, hf.symm, by rw [ht]; exact hP, va_K.moved hW.alike hK, hD⟩, hS.F ht⟩) hS.2.2 dX2_readCommand_10
  · refine W.eq (g2 := F0 m 4 ls [.ref (en jE)]) rfl ?_
    have hf := hf.trans (opt_some hR)
    refine lv_astore_n (lv' := [(2, .ref (en jE)), (0, .ref (b 4)), (1, .int (nI x1))]) hx hb dX2_readCommand_4 rfl hl (by decide) rfl (fun ls hl => ?_)
    refine lv_aload_n hx hb dX2_readCommand_5 rfl (lv_at hl 0 rfl) ?_
    refine lv_ifnonnull (tgt := 11) hx hb dX2_readCommand_6 (by decide) ?_
    refine lv_aload_n hx hb dX2_readCommand_11 rfl (lv_at hl 1 rfl) ?_
    refine lv_aload_n hx hb dX2_readCommand_12 rfl (lv_at hl 0 rfl) ?_
    refine va_getE (i := jE) (q := kFL.get ⟨1, by decide⟩) hx hb hX.2.1 (show jE < kNM.length from readKeyword_lt hR) hS hown (List.get_mem _ _) (hts (.fieldLink RX2 54 "HatReservations$Command" "firstDigits" "I") (by decide +kernel)) (fun _ h9 => h9) dX2_readCommand_13 ?_
    refine hcMi (As := [.int (kFD.getD jE 0)]) (rest := []) (wr := []) (f := fun v => CW ca en b v) (F := fX2_readNumber ((fX2_readKeyword u).2) (kFD.getD jE 0)) 0 3 ⟨hx, hb, hml, hown, hts⟩ (kX2_readNumber l D ca en ks vs b _ ((fX2_readKeyword u).2) (kFD.getD jE 0) hci (kFD_le _)) (cwV 1 hts gX2_readCommand_X2_readNumber rfl rfl rfl (by decide +kernel) ⟨Nat.le_of_ble_eq_true rfl, Nat.le_of_ble_eq_true rfl⟩) hK hP hD hS hA (List.Perm.refl _) rfl rfl rfl hl.1 rfl (Nat.le_of_ble_eq_true rfl) ⟨Nat.zero_le _, Nat.zero_le _⟩ dX2_readCommand_16 (fun H locs hP hD hS => ?_)
    have hP : va_P D vwCl (CW ca en b ((fX2_readNumber ((fX2_readKeyword u).2) (kFD.getD jE 0)).2)) H := hP
    have hD : va_D A (CW ca en b ((fX2_readNumber ((fX2_readKeyword u).2) (kFD.getD jE 0)).2)) := hD
    have hci : CI ((fX2_readNumber ((fX2_readKeyword u).2) (kFD.getD jE 0)).2) := readNumber_CI _ _ hci
    obtain ⟨hc1, hc2, hc3, hc4⟩ := id hci
    refine lv_istore_n (lv' := [(3, .int ((fX2_readNumber ((fX2_readKeyword u).2) (kFD.getD jE 0)).1)), (2, .ref (en jE)), (0, .ref (b 4)), (1, .int (nI x1))]) hx hb dX2_readCommand_19 rfl hl (by decide) rfl (fun ls hl => ?_)
    refine lv_iload_n hx hb dX2_readCommand_20 rfl (lv_at hl 0 rfl) ?_
    refine lv_iconst (v := (-1)) hx hb dX2_readCommand_21 (by decide) ?_
    refine lv_icmp_eq (tgt := 41) hx hb dX2_readCommand_22 (by decide) (fun c_22 => ?_) (fun c_22 => ?_)
    · have hf := hf.trans (if_pos c_22)
      refine lv_iconst (v := 0) hx hb dX2_readCommand_41 (by decide) ?_
      exact W.zret (ty := .boolean) (v := 0) hx hb hr (by decide) (fun t ht hW => ⟨⟨0, (fX2_readNumber ((fX2_readKeyword u).2) (kFD.getD jE 0)).2, rfl, hf.symm, by rw [ht]; exact hP, va_K.moved hW.alike hK, hD⟩, hS.F ht⟩) hS.2.2 dX2_readCommand_42
    · have hf := hf.trans (if_neg c_22)
      refine lv_aload_n hx hb dX2_readCommand_25 rfl (lv_at hl 1 rfl) ?_
      refine va_getE (i := jE) (q := kFL.get ⟨2, by decide⟩) hx hb hX.2.1 (show jE < kNM.length from readKeyword_lt hR) hS hown (List.get_mem _ _) (hts (.fieldLink RX2 61 "HatReservations$Command" "isSpaced" "Z") (by decide +kernel)) (fun _ h9 => h9) dX2_readCommand_26 ?_
      refine lv_if_eq (tgt := 43) hx hb dX2_readCommand_29 (by decide) (fun c_29 => ?_) (fun c_29 => ?_)
      · have hf := hf.trans (if_pos c_29)
        refine lv_aload_n hx hb dX2_readCommand_43 rfl (lv_at hl 1 rfl) ?_
        refine va_getE (i := jE) (q := kFL.get ⟨3, by decide⟩) hx hb hX.2.1 (show jE < kNM.length from readKeyword_lt hR) hS hown (List.get_mem _ _) (hts (.fieldLink RX2 65 "HatReservations$Command" "secondDigits" "I") (by decide +kernel)) (fun _ h9 => h9) dX2_readCommand_44 ?_
        refine lv_if_ne (tgt := 54) hx hb dX2_readCommand_47 (by decide) (fun c_47 => ?_) (fun c_47 => ?_)
        · have hf := hf.trans (if_neg c_47)
          refine lv_aload_n hx hb dX2_readCommand_54 rfl (lv_at hl 2 rfl) ?_
          refine lv_aload_n hx hb dX2_readCommand_55 rfl (lv_at hl 1 rfl) ?_
          refine va_getE (i := jE) (q := kFL.get ⟨3, by decide⟩) hx hb hX.2.1 (show jE < kNM.length from readKeyword_lt hR) hS hown (List.get_mem _ _) (hts (.fieldLink RX2 65 "HatReservations$Command" "secondDigits" "I") (by decide +kernel)) (fun _ h9 => h9) dX2_readCommand_56 ?_
          refine hcMi (As := [.int (kSD.getD jE 0)]) (rest := []) (wr := []) (f := fun v => CW ca en b v) (F := fX2_readNumber ((fX2_readNumber ((fX2_readKeyword u).2) (kFD.getD jE 0)).2) (kSD.getD jE 0)) 0 3 ⟨hx, hb, hml, hown, hts⟩ (kX2_readNumber l D ca en ks vs b _ ((fX2_readNumber ((fX2_readKeyword u).2) (kFD.getD jE 0)).2) (kSD.getD jE 0) hci (kSD_le _)) (cwV 1 hts gX2_readCommand_X2_readNumber rfl rfl rfl (by decide +kernel) ⟨Nat.le_of_ble_eq_true rfl, Nat.le_of_ble_eq_true rfl⟩) hK hP hD hS hA (List.Perm.refl _) rfl rfl rfl hl.1 rfl (Nat.le_of_ble_eq_true rfl) ⟨Nat.zero_le _, Nat.zero_le _⟩ dX2_readCommand_59 (fun H locs hP hD hS => ?_)
          have hP : va_P D vwCl (CW ca en b ((fX2_readNumber ((fX2_readNumber ((fX2_readKeyword u).2) (kFD.getD jE 0)).2) (kSD.getD jE 0)).2)) H := hP
          have hD : va_D A (CW ca en b ((fX2_readNumber ((fX2_readNumber ((fX2_readKeyword u).2) (kFD.getD jE 0)).2) (kSD.getD jE 0)).2)) := hD
          have hci : CI ((fX2_readNumber ((fX2_readNumber ((fX2_readKeyword u).2) (kFD.getD jE 0)).2) (kSD.getD jE 0)).2) := readNumber_CI _ _ hci
          obtain ⟨hc1, hc2, hc3, hc4⟩ := id hci
          refine lv_istore (lv' := [(4, .int ((fX2_readNumber ((fX2_readNumber ((fX2_readKeyword u).2) (kFD.getD jE 0)).2) (kSD.getD jE 0)).1)), (3, .int ((fX2_readNumber ((fX2_readKeyword u).2) (kFD.getD jE 0)).1)), (2, .ref (en jE)), (0, .ref (b 4)), (1, .int (nI x1))]) hx hb dX2_readCommand_62 hl (by decide) rfl (fun ls hl => ?_)
          refine lv_iload hx hb dX2_readCommand_64 (lv_at hl 0 rfl) ?_
          refine lv_iconst (v := (-1)) hx hb dX2_readCommand_66 (by decide) ?_
          refine lv_icmp_ne (tgt := 72) hx hb dX2_readCommand_67 (by decide) (fun c_67 => ?_) (fun c_67 => ?_)
          · have hf := hf.trans (if_neg c_67)
            refine lv_aload_n hx hb dX2_readCommand_72 rfl (lv_at hl 3 rfl) ?_
            refine va_get (D := D) (ci := 3) (v := .ref (b 1)) (C := RX2) (T := TX2) (N := 7) hx hb hts hin hown hK hP 0 rfl rfl 2 (by decide) (hts (.fieldLink RX2 21 "HatReservations$CommandText" "commands" "[LHatReservations$Command;") (by decide +kernel)) (fun _ h9 => h9) rfl dX2_readCommand_73 ?_
            refine lv_iload_n hx hb dX2_readCommand_76 rfl (lv_at hl 4 rfl) ?_
            refine lv_aload_n hx hb dX2_readCommand_77 rfl (lv_at hl 2 rfl) ?_
            refine astE (f := q2 ((fX2_readNumber ((fX2_readNumber ((fX2_readKeyword u).2) (kFD.getD jE 0)).2) (kSD.getD jE 0)).2)) (i := x1) (j := jE) 2 4 hx hb hK hP hD hS rfl rfl (hX.2.1.1 jE (show jE < kNM.length from readKeyword_lt hR)).2.1 (by omega) (by decide) dX2_readCommand_78 (fun H locs hP hD hS => ?_)
            have hP : va_P D vwCl (CW ca en b (r2 (va_up (q2 ((fX2_readNumber ((fX2_readNumber ((fX2_readKeyword u).2) (kFD.getD jE 0)).2) (kSD.getD jE 0)).2)) x1 jE) ((fX2_readNumber ((fX2_readNumber ((fX2_readKeyword u).2) (kFD.getD jE 0)).2) (kSD.getD jE 0)).2))) H := hP
            have hD : va_D A (CW ca en b (r2 (va_up (q2 ((fX2_readNumber ((fX2_readNumber ((fX2_readKeyword u).2) (kFD.getD jE 0)).2) (kSD.getD jE 0)).2)) x1 jE) ((fX2_readNumber ((fX2_readNumber ((fX2_readKeyword u).2) (kFD.getD jE 0)).2) (kSD.getD jE 0)).2))) := hD
            refine lv_aload_n hx hb dX2_readCommand_79 rfl (lv_at hl 3 rfl) ?_
            refine va_get (D := D) (ci := 3) (v := .ref (b 2)) (C := RX2) (T := TX2) (N := 7) hx hb hts hin hown hK hP 0 rfl rfl 3 (by decide) (hts (.fieldLink RX2 25 "HatReservations$CommandText" "firsts" "[I") (by decide +kernel)) (fun _ h9 => h9) rfl dX2_readCommand_80 ?_
            refine lv_iload_n hx hb dX2_readCommand_83 rfl (lv_at hl 4 rfl) ?_
            refine lv_iload_n hx hb dX2_readCommand_84 rfl (lv_at hl 1 rfl) ?_
            refine iastN (f := q3 ((fX2_readNumber ((fX2_readNumber ((fX2_readKeyword u).2) (kFD.getD jE 0)).2) (kSD.getD jE 0)).2)) (k := x1) hx hb hK hP hD hS 3 0 rfl rfl (by omega) (by decide) dX2_readCommand_85 (fun H locs hP hD hS => ?_)
            have hP : va_P D vwCl (CW ca en b (r3 (upd (q3 ((fX2_readNumber ((fX2_readNumber ((fX2_readKeyword u).2) (kFD.getD jE 0)).2) (kSD.getD jE 0)).2)) x1 ((fX2_readNumber ((fX2_readKeyword u).2) (kFD.getD jE 0)).1)) (r2 (va_up (q2 ((fX2_readNumber ((fX2_readNumber ((fX2_readKeyword u).2) (kFD.getD jE 0)).2) (kSD.getD jE 0)).2)) x1 jE) ((fX2_readNumber ((fX2_readNumber ((fX2_readKeyword u).2) (kFD.getD jE 0)).2) (kSD.getD jE 0)).2)))) H := hP
            have hD : va_D A (CW ca en b (r3 (upd (q3 ((fX2_readNumber ((fX2_readNumber ((fX2_readKeyword u).2) (kFD.getD jE 0)).2) (kSD.getD jE 0)).2)) x1 ((fX2_readNumber ((fX2_readKeyword u).2) (kFD.getD jE 0)).1)) (r2 (va_up (q2 ((fX2_readNumber ((fX2_readNumber ((fX2_readKeyword u).2) (kFD.getD jE 0)).2) (kSD.getD jE 0)).2)) x1 jE) ((fX2_readNumber ((fX2_readNumber ((fX2_readKeyword u).2) (kFD.getD jE 0)).2) (kSD.getD jE 0)).2)))) := hD
            refine lv_aload_n hx hb dX2_readCommand_86 rfl (lv_at hl 3 rfl) ?_
            refine va_get (D := D) (ci := 3) (v := .ref (b 3)) (C := RX2) (T := TX2) (N := 7) hx hb hts hin hown hK hP 0 rfl rfl 4 (by decide) (hts (.fieldLink RX2 29 "HatReservations$CommandText" "seconds" "[I") (by decide +kernel)) (fun _ h9 => h9) rfl dX2_readCommand_87 ?_
            refine lv_iload_n hx hb dX2_readCommand_90 rfl (lv_at hl 4 rfl) ?_
            refine lv_iload hx hb dX2_readCommand_91 (lv_at hl 0 rfl) ?_
            refine iastN (f := q4 ((fX2_readNumber ((fX2_readNumber ((fX2_readKeyword u).2) (kFD.getD jE 0)).2) (kSD.getD jE 0)).2)) (k := x1) hx hb hK hP hD hS 4 0 rfl rfl (by omega) (by decide) dX2_readCommand_93 (fun H locs hP hD hS => ?_)
            have hP : va_P D vwCl (CW ca en b (r4 (upd (q4 ((fX2_readNumber ((fX2_readNumber ((fX2_readKeyword u).2) (kFD.getD jE 0)).2) (kSD.getD jE 0)).2)) x1 ((fX2_readNumber ((fX2_readNumber ((fX2_readKeyword u).2) (kFD.getD jE 0)).2) (kSD.getD jE 0)).1)) (r3 (upd (q3 ((fX2_readNumber ((fX2_readNumber ((fX2_readKeyword u).2) (kFD.getD jE 0)).2) (kSD.getD jE 0)).2)) x1 ((fX2_readNumber ((fX2_readKeyword u).2) (kFD.getD jE 0)).1)) (r2 (va_up (q2 ((fX2_readNumber ((fX2_readNumber ((fX2_readKeyword u).2) (kFD.getD jE 0)).2) (kSD.getD jE 0)).2)) x1 jE) ((fX2_readNumber ((fX2_readNumber ((fX2_readKeyword u).2) (kFD.getD jE 0)).2) (kSD.getD jE 0)).2))))) H := hP
            have hD : va_D A (CW ca en b (r4 (upd (q4 ((fX2_readNumber ((fX2_readNumber ((fX2_readKeyword u).2) (kFD.getD jE 0)).2) (kSD.getD jE 0)).2)) x1 ((fX2_readNumber ((fX2_readNumber ((fX2_readKeyword u).2) (kFD.getD jE 0)).2) (kSD.getD jE 0)).1)) (r3 (upd (q3 ((fX2_readNumber ((fX2_readNumber ((fX2_readKeyword u).2) (kFD.getD jE 0)).2) (kSD.getD jE 0)).2)) x1 ((fX2_readNumber ((fX2_readKeyword u).2) (kFD.getD jE 0)).1)) (r2 (va_up (q2 ((fX2_readNumber ((fX2_readNumber ((fX2_readKeyword u).2) (kFD.getD jE 0)).2) (kSD.getD jE 0)).2)) x1 jE) ((fX2_readNumber ((fX2_readNumber ((fX2_readKeyword u).2) (kFD.getD jE 0)).2) (kSD.getD jE 0)).2))))) := hD
            refine lv_iconst (v := 1) hx hb dX2_readCommand_94 (by decide) ?_
            exact W.zret (ty := .boolean) (v := 1) hx hb hr (by decide) (fun t ht hW => ⟨⟨1, r4 (upd (q4 ((fX2_readNumber ((fX2_readNumber ((fX2_readKeyword u).2) (kFD.getD jE 0)).2) (kSD.getD jE 0)).2)) x1 ((fX2_readNumber ((fX2_readNumber ((fX2_readKeyword u).2) (kFD.getD jE 0)).2) (kSD.getD jE 0)).1)) (r3 (upd (q3 ((fX2_readNumber ((fX2_readNumber ((fX2_readKeyword u).2) (kFD.getD jE 0)).2) (kSD.getD jE 0)).2)) x1 ((fX2_readNumber ((fX2_readKeyword u).2) (kFD.getD jE 0)).1)) (r2 (va_up (q2 ((fX2_readNumber ((fX2_readNumber ((fX2_readKeyword u).2) (kFD.getD jE 0)).2) (kSD.getD jE 0)).2)) x1 jE) ((fX2_readNumber ((fX2_readNumber ((fX2_readKeyword u).2) (kFD.getD jE 0)).2) (kSD.getD jE 0)).2))), rfl, hf.symm, by rw [ht]; exact hP, va_K.moved hW.alike hK, hD⟩, hS.F ht⟩) hS.2.2 dX2_readCommand_95
          · have hf := hf.trans (if_pos c_67)
            refine lv_iconst (v := 0) hx hb dX2_readCommand_70 (by decide) ?_
            exact W.zret (ty := .boolean) (v := 0) hx hb hr (by decide) (fun t ht hW => ⟨⟨0, (fX2_readNumber ((fX2_readNumber ((fX2_readKeyword u).2) (kFD.getD jE 0)).2) (kSD.getD jE 0)).2, rfl, hf.symm, by rw [ht]; exact hP, va_K.moved hW.alike hK, hD⟩, hS.F ht⟩) hS.2.2 dX2_readCommand_71
        · have hf := hf.trans (if_pos c_47)
          refine lv_iconst (v := 0) hx hb dX2_readCommand_50 (by decide) ?_
          refine lv_goto (tgt := 62) hx hb dX2_readCommand_51 (by decide) ?_
          refine lv_istore (lv' := [(4, .int 0), (3, .int ((fX2_readNumber ((fX2_readKeyword u).2) (kFD.getD jE 0)).1)), (2, .ref (en jE)), (0, .ref (b 4)), (1, .int (nI x1))]) hx hb dX2_readCommand_62 hl (by decide) rfl (fun ls hl => ?_)
          refine lv_iload hx hb dX2_readCommand_64 (lv_at hl 0 rfl) ?_
          refine lv_iconst (v := (-1)) hx hb dX2_readCommand_66 (by decide) ?_
          refine lv_icmp_ne (tgt := 72) hx hb dX2_readCommand_67 (by decide) (fun _ => ?_) (fun q => absurd q (by decide))
          refine lv_aload_n hx hb dX2_readCommand_72 rfl (lv_at hl 3 rfl) ?_
          refine va_get (D := D) (ci := 3) (v := .ref (b 1)) (C := RX2) (T := TX2) (N := 7) hx hb hts hin hown hK hP 0 rfl rfl 2 (by decide) (hts (.fieldLink RX2 21 "HatReservations$CommandText" "commands" "[LHatReservations$Command;") (by decide +kernel)) (fun _ h9 => h9) rfl dX2_readCommand_73 ?_
          refine lv_iload_n hx hb dX2_readCommand_76 rfl (lv_at hl 4 rfl) ?_
          refine lv_aload_n hx hb dX2_readCommand_77 rfl (lv_at hl 2 rfl) ?_
          refine astE (f := q2 ((fX2_readNumber ((fX2_readKeyword u).2) (kFD.getD jE 0)).2)) (i := x1) (j := jE) 2 4 hx hb hK hP hD hS rfl rfl (hX.2.1.1 jE (show jE < kNM.length from readKeyword_lt hR)).2.1 (by omega) (by decide) dX2_readCommand_78 (fun H locs hP hD hS => ?_)
          have hP : va_P D vwCl (CW ca en b (r2 (va_up (q2 ((fX2_readNumber ((fX2_readKeyword u).2) (kFD.getD jE 0)).2)) x1 jE) ((fX2_readNumber ((fX2_readKeyword u).2) (kFD.getD jE 0)).2))) H := hP
          have hD : va_D A (CW ca en b (r2 (va_up (q2 ((fX2_readNumber ((fX2_readKeyword u).2) (kFD.getD jE 0)).2)) x1 jE) ((fX2_readNumber ((fX2_readKeyword u).2) (kFD.getD jE 0)).2))) := hD
          refine lv_aload_n hx hb dX2_readCommand_79 rfl (lv_at hl 3 rfl) ?_
          refine va_get (D := D) (ci := 3) (v := .ref (b 2)) (C := RX2) (T := TX2) (N := 7) hx hb hts hin hown hK hP 0 rfl rfl 3 (by decide) (hts (.fieldLink RX2 25 "HatReservations$CommandText" "firsts" "[I") (by decide +kernel)) (fun _ h9 => h9) rfl dX2_readCommand_80 ?_
          refine lv_iload_n hx hb dX2_readCommand_83 rfl (lv_at hl 4 rfl) ?_
          refine lv_iload_n hx hb dX2_readCommand_84 rfl (lv_at hl 1 rfl) ?_
          refine iastN (f := q3 ((fX2_readNumber ((fX2_readKeyword u).2) (kFD.getD jE 0)).2)) (k := x1) hx hb hK hP hD hS 3 0 rfl rfl (by omega) (by decide) dX2_readCommand_85 (fun H locs hP hD hS => ?_)
          have hP : va_P D vwCl (CW ca en b (r3 (upd (q3 ((fX2_readNumber ((fX2_readKeyword u).2) (kFD.getD jE 0)).2)) x1 ((fX2_readNumber ((fX2_readKeyword u).2) (kFD.getD jE 0)).1)) (r2 (va_up (q2 ((fX2_readNumber ((fX2_readKeyword u).2) (kFD.getD jE 0)).2)) x1 jE) ((fX2_readNumber ((fX2_readKeyword u).2) (kFD.getD jE 0)).2)))) H := hP
          have hD : va_D A (CW ca en b (r3 (upd (q3 ((fX2_readNumber ((fX2_readKeyword u).2) (kFD.getD jE 0)).2)) x1 ((fX2_readNumber ((fX2_readKeyword u).2) (kFD.getD jE 0)).1)) (r2 (va_up (q2 ((fX2_readNumber ((fX2_readKeyword u).2) (kFD.getD jE 0)).2)) x1 jE) ((fX2_readNumber ((fX2_readKeyword u).2) (kFD.getD jE 0)).2)))) := hD
          refine lv_aload_n hx hb dX2_readCommand_86 rfl (lv_at hl 3 rfl) ?_
          refine va_get (D := D) (ci := 3) (v := .ref (b 3)) (C := RX2) (T := TX2) (N := 7) hx hb hts hin hown hK hP 0 rfl rfl 4 (by decide) (hts (.fieldLink RX2 29 "HatReservations$CommandText" "seconds" "[I") (by decide +kernel)) (fun _ h9 => h9) rfl dX2_readCommand_87 ?_
          refine lv_iload_n hx hb dX2_readCommand_90 rfl (lv_at hl 4 rfl) ?_
          refine lv_iload hx hb dX2_readCommand_91 (lv_at hl 0 rfl) ?_
          refine iastN (f := q4 ((fX2_readNumber ((fX2_readKeyword u).2) (kFD.getD jE 0)).2)) (k := x1) hx hb hK hP hD hS 4 0 rfl rfl (by omega) (by decide) dX2_readCommand_93 (fun H locs hP hD hS => ?_)
          have hP : va_P D vwCl (CW ca en b (r4 (upd (q4 ((fX2_readNumber ((fX2_readKeyword u).2) (kFD.getD jE 0)).2)) x1 0) (r3 (upd (q3 ((fX2_readNumber ((fX2_readKeyword u).2) (kFD.getD jE 0)).2)) x1 ((fX2_readNumber ((fX2_readKeyword u).2) (kFD.getD jE 0)).1)) (r2 (va_up (q2 ((fX2_readNumber ((fX2_readKeyword u).2) (kFD.getD jE 0)).2)) x1 jE) ((fX2_readNumber ((fX2_readKeyword u).2) (kFD.getD jE 0)).2))))) H := hP
          have hD : va_D A (CW ca en b (r4 (upd (q4 ((fX2_readNumber ((fX2_readKeyword u).2) (kFD.getD jE 0)).2)) x1 0) (r3 (upd (q3 ((fX2_readNumber ((fX2_readKeyword u).2) (kFD.getD jE 0)).2)) x1 ((fX2_readNumber ((fX2_readKeyword u).2) (kFD.getD jE 0)).1)) (r2 (va_up (q2 ((fX2_readNumber ((fX2_readKeyword u).2) (kFD.getD jE 0)).2)) x1 jE) ((fX2_readNumber ((fX2_readKeyword u).2) (kFD.getD jE 0)).2))))) := hD
          refine lv_iconst (v := 1) hx hb dX2_readCommand_94 (by decide) ?_
          exact W.zret (ty := .boolean) (v := 1) hx hb hr (by decide) (fun t ht hW => ⟨⟨1, r4 (upd (q4 ((fX2_readNumber ((fX2_readKeyword u).2) (kFD.getD jE 0)).2)) x1 0) (r3 (upd (q3 ((fX2_readNumber ((fX2_readKeyword u).2) (kFD.getD jE 0)).2)) x1 ((fX2_readNumber ((fX2_readKeyword u).2) (kFD.getD jE 0)).1)) (r2 (va_up (q2 ((fX2_readNumber ((fX2_readKeyword u).2) (kFD.getD jE 0)).2)) x1 jE) ((fX2_readNumber ((fX2_readKeyword u).2) (kFD.getD jE 0)).2))), rfl, hf.symm, by rw [ht]; exact hP, va_K.moved hW.alike hK, hD⟩, hS.F ht⟩) hS.2.2 dX2_readCommand_95
      · have hf := hf.trans (if_neg c_29)
        refine lv_aload_n hx hb dX2_readCommand_32 rfl (lv_at hl 2 rfl) ?_
        refine lv_bipush (v := 32) hx hb dX2_readCommand_33 (by decide) ?_
        refine hcMi (As := [.int 32]) (rest := []) (wr := []) (f := fun v => CW ca en b v) (F := fX2_readSign ((fX2_readNumber ((fX2_readKeyword u).2) (kFD.getD jE 0)).2) 32) 0 3 ⟨hx, hb, hml, hown, hts⟩ (kX2_readSign l D ca en ks vs b _ ((fX2_readNumber ((fX2_readKeyword u).2) (kFD.getD jE 0)).2) 32 hci) (cwV 1 hts gX2_readCommand_X2_readSign rfl rfl rfl (by decide +kernel) ⟨Nat.le_of_ble_eq_true rfl, Nat.le_of_ble_eq_true rfl⟩) hK hP hD hS hA (List.Perm.refl _) rfl rfl rfl hl.1 rfl (Nat.le_of_ble_eq_true rfl) ⟨Nat.zero_le _, Nat.zero_le _⟩ dX2_readCommand_35 (fun H locs hP hD hS => ?_)
        have hP : va_P D vwCl (CW ca en b ((fX2_readSign ((fX2_readNumber ((fX2_readKeyword u).2) (kFD.getD jE 0)).2) 32).2)) H := hP
        have hD : va_D A (CW ca en b ((fX2_readSign ((fX2_readNumber ((fX2_readKeyword u).2) (kFD.getD jE 0)).2) 32).2)) := hD
        have hci : CI ((fX2_readSign ((fX2_readNumber ((fX2_readKeyword u).2) (kFD.getD jE 0)).2) 32).2) := readSign_CI _ _ hci
        obtain ⟨hc1, hc2, hc3, hc4⟩ := id hci
        refine lv_if_ne (tgt := 43) hx hb dX2_readCommand_38 (by decide) (fun c_38 => ?_) (fun c_38 => ?_)
        · have hf := hf.trans (if_neg c_38)
          refine lv_aload_n hx hb dX2_readCommand_43 rfl (lv_at hl 1 rfl) ?_
          refine va_getE (i := jE) (q := kFL.get ⟨3, by decide⟩) hx hb hX.2.1 (show jE < kNM.length from readKeyword_lt hR) hS hown (List.get_mem _ _) (hts (.fieldLink RX2 65 "HatReservations$Command" "secondDigits" "I") (by decide +kernel)) (fun _ h9 => h9) dX2_readCommand_44 ?_
          refine lv_if_ne (tgt := 54) hx hb dX2_readCommand_47 (by decide) (fun c_47 => ?_) (fun c_47 => ?_)
          · have hf := hf.trans (if_neg c_47)
            refine lv_aload_n hx hb dX2_readCommand_54 rfl (lv_at hl 2 rfl) ?_
            refine lv_aload_n hx hb dX2_readCommand_55 rfl (lv_at hl 1 rfl) ?_
            refine va_getE (i := jE) (q := kFL.get ⟨3, by decide⟩) hx hb hX.2.1 (show jE < kNM.length from readKeyword_lt hR) hS hown (List.get_mem _ _) (hts (.fieldLink RX2 65 "HatReservations$Command" "secondDigits" "I") (by decide +kernel)) (fun _ h9 => h9) dX2_readCommand_56 ?_
            refine hcMi (As := [.int (kSD.getD jE 0)]) (rest := []) (wr := []) (f := fun v => CW ca en b v) (F := fX2_readNumber ((fX2_readSign ((fX2_readNumber ((fX2_readKeyword u).2) (kFD.getD jE 0)).2) 32).2) (kSD.getD jE 0)) 0 3 ⟨hx, hb, hml, hown, hts⟩ (kX2_readNumber l D ca en ks vs b _ ((fX2_readSign ((fX2_readNumber ((fX2_readKeyword u).2) (kFD.getD jE 0)).2) 32).2) (kSD.getD jE 0) hci (kSD_le _)) (cwV 1 hts gX2_readCommand_X2_readNumber rfl rfl rfl (by decide +kernel) ⟨Nat.le_of_ble_eq_true rfl, Nat.le_of_ble_eq_true rfl⟩) hK hP hD hS hA (List.Perm.refl _) rfl rfl rfl hl.1 rfl (Nat.le_of_ble_eq_true rfl) ⟨Nat.zero_le _, Nat.zero_le _⟩ dX2_readCommand_59 (fun H locs hP hD hS => ?_)
            have hP : va_P D vwCl (CW ca en b ((fX2_readNumber ((fX2_readSign ((fX2_readNumber ((fX2_readKeyword u).2) (kFD.getD jE 0)).2) 32).2) (kSD.getD jE 0)).2)) H := hP
            have hD : va_D A (CW ca en b ((fX2_readNumber ((fX2_readSign ((fX2_readNumber ((fX2_readKeyword u).2) (kFD.getD jE 0)).2) 32).2) (kSD.getD jE 0)).2)) := hD
            have hci : CI ((fX2_readNumber ((fX2_readSign ((fX2_readNumber ((fX2_readKeyword u).2) (kFD.getD jE 0)).2) 32).2) (kSD.getD jE 0)).2) := readNumber_CI _ _ hci
            obtain ⟨hc1, hc2, hc3, hc4⟩ := id hci
            refine lv_istore (lv' := [(4, .int ((fX2_readNumber ((fX2_readSign ((fX2_readNumber ((fX2_readKeyword u).2) (kFD.getD jE 0)).2) 32).2) (kSD.getD jE 0)).1)), (3, .int ((fX2_readNumber ((fX2_readKeyword u).2) (kFD.getD jE 0)).1)), (2, .ref (en jE)), (0, .ref (b 4)), (1, .int (nI x1))]) hx hb dX2_readCommand_62 hl (by decide) rfl (fun ls hl => ?_)
            refine lv_iload hx hb dX2_readCommand_64 (lv_at hl 0 rfl) ?_
            refine lv_iconst (v := (-1)) hx hb dX2_readCommand_66 (by decide) ?_
            refine lv_icmp_ne (tgt := 72) hx hb dX2_readCommand_67 (by decide) (fun c_67 => ?_) (fun c_67 => ?_)
            · have hf := hf.trans (if_neg c_67)
              refine lv_aload_n hx hb dX2_readCommand_72 rfl (lv_at hl 3 rfl) ?_
              refine va_get (D := D) (ci := 3) (v := .ref (b 1)) (C := RX2) (T := TX2) (N := 7) hx hb hts hin hown hK hP 0 rfl rfl 2 (by decide) (hts (.fieldLink RX2 21 "HatReservations$CommandText" "commands" "[LHatReservations$Command;") (by decide +kernel)) (fun _ h9 => h9) rfl dX2_readCommand_73 ?_
              refine lv_iload_n hx hb dX2_readCommand_76 rfl (lv_at hl 4 rfl) ?_
              refine lv_aload_n hx hb dX2_readCommand_77 rfl (lv_at hl 2 rfl) ?_
              refine astE (f := q2 ((fX2_readNumber ((fX2_readSign ((fX2_readNumber ((fX2_readKeyword u).2) (kFD.getD jE 0)).2) 32).2) (kSD.getD jE 0)).2)) (i := x1) (j := jE) 2 4 hx hb hK hP hD hS rfl rfl (hX.2.1.1 jE (show jE < kNM.length from readKeyword_lt hR)).2.1 (by omega) (by decide) dX2_readCommand_78 (fun H locs hP hD hS => ?_)
              have hP : va_P D vwCl (CW ca en b (r2 (va_up (q2 ((fX2_readNumber ((fX2_readSign ((fX2_readNumber ((fX2_readKeyword u).2) (kFD.getD jE 0)).2) 32).2) (kSD.getD jE 0)).2)) x1 jE) ((fX2_readNumber ((fX2_readSign ((fX2_readNumber ((fX2_readKeyword u).2) (kFD.getD jE 0)).2) 32).2) (kSD.getD jE 0)).2))) H := hP
              have hD : va_D A (CW ca en b (r2 (va_up (q2 ((fX2_readNumber ((fX2_readSign ((fX2_readNumber ((fX2_readKeyword u).2) (kFD.getD jE 0)).2) 32).2) (kSD.getD jE 0)).2)) x1 jE) ((fX2_readNumber ((fX2_readSign ((fX2_readNumber ((fX2_readKeyword u).2) (kFD.getD jE 0)).2) 32).2) (kSD.getD jE 0)).2))) := hD
              refine lv_aload_n hx hb dX2_readCommand_79 rfl (lv_at hl 3 rfl) ?_
              refine va_get (D := D) (ci := 3) (v := .ref (b 2)) (C := RX2) (T := TX2) (N := 7) hx hb hts hin hown hK hP 0 rfl rfl 3 (by decide) (hts (.fieldLink RX2 25 "HatReservations$CommandText" "firsts" "[I") (by decide +kernel)) (fun _ h9 => h9) rfl dX2_readCommand_80 ?_
              refine lv_iload_n hx hb dX2_readCommand_83 rfl (lv_at hl 4 rfl) ?_
              refine lv_iload_n hx hb dX2_readCommand_84 rfl (lv_at hl 1 rfl) ?_
              refine iastN (f := q3 ((fX2_readNumber ((fX2_readSign ((fX2_readNumber ((fX2_readKeyword u).2) (kFD.getD jE 0)).2) 32).2) (kSD.getD jE 0)).2)) (k := x1) hx hb hK hP hD hS 3 0 rfl rfl (by omega) (by decide) dX2_readCommand_85 (fun H locs hP hD hS => ?_)
              have hP : va_P D vwCl (CW ca en b (r3 (upd (q3 ((fX2_readNumber ((fX2_readSign ((fX2_readNumber ((fX2_readKeyword u).2) (kFD.getD jE 0)).2) 32).2) (kSD.getD jE 0)).2)) x1 ((fX2_readNumber ((fX2_readKeyword u).2) (kFD.getD jE 0)).1)) (r2 (va_up (q2 ((fX2_readNumber ((fX2_readSign ((fX2_readNumber ((fX2_readKeyword u).2) (kFD.getD jE 0)).2) 32).2) (kSD.getD jE 0)).2)) x1 jE) ((fX2_readNumber ((fX2_readSign ((fX2_readNumber ((fX2_readKeyword u).2) (kFD.getD jE 0)).2) 32).2) (kSD.getD jE 0)).2)))) H := hP
              have hD : va_D A (CW ca en b (r3 (upd (q3 ((fX2_readNumber ((fX2_readSign ((fX2_readNumber ((fX2_readKeyword u).2) (kFD.getD jE 0)).2) 32).2) (kSD.getD jE 0)).2)) x1 ((fX2_readNumber ((fX2_readKeyword u).2) (kFD.getD jE 0)).1)) (r2 (va_up (q2 ((fX2_readNumber ((fX2_readSign ((fX2_readNumber ((fX2_readKeyword u).2) (kFD.getD jE 0)).2) 32).2) (kSD.getD jE 0)).2)) x1 jE) ((fX2_readNumber ((fX2_readSign ((fX2_readNumber ((fX2_readKeyword u).2) (kFD.getD jE 0)).2) 32).2) (kSD.getD jE 0)).2)))) := hD
              refine lv_aload_n hx hb dX2_readCommand_86 rfl (lv_at hl 3 rfl) ?_
              refine va_get (D := D) (ci := 3) (v := .ref (b 3)) (C := RX2) (T := TX2) (N := 7) hx hb hts hin hown hK hP 0 rfl rfl 4 (by decide) (hts (.fieldLink RX2 29 "HatReservations$CommandText" "seconds" "[I") (by decide +kernel)) (fun _ h9 => h9) rfl dX2_readCommand_87 ?_
              refine lv_iload_n hx hb dX2_readCommand_90 rfl (lv_at hl 4 rfl) ?_
              refine lv_iload hx hb dX2_readCommand_91 (lv_at hl 0 rfl) ?_
              refine iastN (f := q4 ((fX2_readNumber ((fX2_readSign ((fX2_readNumber ((fX2_readKeyword u).2) (kFD.getD jE 0)).2) 32).2) (kSD.getD jE 0)).2)) (k := x1) hx hb hK hP hD hS 4 0 rfl rfl (by omega) (by decide) dX2_readCommand_93 (fun H locs hP hD hS => ?_)
              have hP : va_P D vwCl (CW ca en b (r4 (upd (q4 ((fX2_readNumber ((fX2_readSign ((fX2_readNumber ((fX2_readKeyword u).2) (kFD.getD jE 0)).2) 32).2) (kSD.getD jE 0)).2)) x1 ((fX2_readNumber ((fX2_readSign ((fX2_readNumber ((fX2_readKeyword u).2) (kFD.getD jE 0)).2) 32).2) (kSD.getD jE 0)).1)) (r3 (upd (q3 ((fX2_readNumber ((fX2_readSign ((fX2_readNumber ((fX2_readKeyword u).2) (kFD.getD jE 0)).2) 32).2) (kSD.getD jE 0)).2)) x1 ((fX2_readNumber ((fX2_readKeyword u).2) (kFD.getD jE 0)).1)) (r2 (va_up (q2 ((fX2_readNumber ((fX2_readSign ((fX2_readNumber ((fX2_readKeyword u).2) (kFD.getD jE 0)).2) 32).2) (kSD.getD jE 0)).2)) x1 jE) ((fX2_readNumber ((fX2_readSign ((fX2_readNumber ((fX2_readKeyword u).2) (kFD.getD jE 0)).2) 32).2) (kSD.getD jE 0)).2))))) H := hP
              have hD : va_D A (CW ca en b (r4 (upd (q4 ((fX2_readNumber ((fX2_readSign ((fX2_readNumber ((fX2_readKeyword u).2) (kFD.getD jE 0)).2) 32).2) (kSD.getD jE 0)).2)) x1 ((fX2_readNumber ((fX2_readSign ((fX2_readNumber ((fX2_readKeyword u).2) (kFD.getD jE 0)).2) 32).2) (kSD.getD jE 0)).1)) (r3 (upd (q3 ((fX2_readNumber ((fX2_readSign ((fX2_readNumber ((fX2_readKeyword u).2) (kFD.getD jE 0)).2) 32).2) (kSD.getD jE 0)).2)) x1 ((fX2_readNumber ((fX2_readKeyword u).2) (kFD.getD jE 0)).1)) (r2 (va_up (q2 ((fX2_readNumber ((fX2_readSign ((fX2_readNumber ((fX2_readKeyword u).2) (kFD.getD jE 0)).2) 32).2) (kSD.getD jE 0)).2)) x1 jE) ((fX2_readNumber ((fX2_readSign ((fX2_readNumber ((fX2_readKeyword u).2) (kFD.getD jE 0)).2) 32).2) (kSD.getD jE 0)).2))))) := hD
              refine lv_iconst (v := 1) hx hb dX2_readCommand_94 (by decide) ?_
              exact W.zret (ty := .boolean) (v := 1) hx hb hr (by decide) (fun t ht hW => ⟨⟨1, r4 (upd (q4 ((fX2_readNumber ((fX2_readSign ((fX2_readNumber ((fX2_readKeyword u).2) (kFD.getD jE 0)).2) 32).2) (kSD.getD jE 0)).2)) x1 ((fX2_readNumber ((fX2_readSign ((fX2_readNumber ((fX2_readKeyword u).2) (kFD.getD jE 0)).2) 32).2) (kSD.getD jE 0)).1)) (r3 (upd (q3 ((fX2_readNumber ((fX2_readSign ((fX2_readNumber ((fX2_readKeyword u).2) (kFD.getD jE 0)).2) 32).2) (kSD.getD jE 0)).2)) x1 ((fX2_readNumber ((fX2_readKeyword u).2) (kFD.getD jE 0)).1)) (r2 (va_up (q2 ((fX2_readNumber ((fX2_readSign ((fX2_readNumber ((fX2_readKeyword u).2) (kFD.getD jE 0)).2) 32).2) (kSD.getD jE 0)).2)) x1 jE) ((fX2_readNumber ((fX2_readSign ((fX2_readNumber ((fX2_readKeyword u).2) (kFD.getD jE 0)).2) 32).2) (kSD.getD jE 0)).2))), rfl, hf.symm, by rw [ht]; exact hP, va_K.moved hW.alike hK, hD⟩, hS.F ht⟩) hS.2.2 dX2_readCommand_95
            · have hf := hf.trans (if_pos c_67)
              refine lv_iconst (v := 0) hx hb dX2_readCommand_70 (by decide) ?_
              exact W.zret (ty := .boolean) (v := 0) hx hb hr (by decide) (fun t ht hW => ⟨⟨0, (fX2_readNumber ((fX2_readSign ((fX2_readNumber ((fX2_readKeyword u).2) (kFD.getD jE 0)).2) 32).2) (kSD.getD jE 0)).2, rfl, hf.symm, by rw [ht]; exact hP, va_K.moved hW.alike hK, hD⟩, hS.F ht⟩) hS.2.2 dX2_readCommand_71
          · have hf := hf.trans (if_pos c_47)
            refine lv_iconst (v := 0) hx hb dX2_readCommand_50 (by decide) ?_
            refine lv_goto (tgt := 62) hx hb dX2_readCommand_51 (by decide) ?_
            refine lv_istore (lv' := [(4, .int 0), (3, .int ((fX2_readNumber ((fX2_readKeyword u).2) (kFD.getD jE 0)).1)), (2, .ref (en jE)), (0, .ref (b 4)), (1, .int (nI x1))]) hx hb dX2_readCommand_62 hl (by decide) rfl (fun ls hl => ?_)
            refine lv_iload hx hb dX2_readCommand_64 (lv_at hl 0 rfl) ?_
            refine lv_iconst (v := (-1)) hx hb dX2_readCommand_66 (by decide) ?_
            refine lv_icmp_ne (tgt := 72) hx hb dX2_readCommand_67 (by decide) (fun _ => ?_) (fun q => absurd q (by decide))
            refine lv_aload_n hx hb dX2_readCommand_72 rfl (lv_at hl 3 rfl) ?_
            refine va_get (D := D) (ci := 3) (v := .ref (b 1)) (C := RX2) (T := TX2) (N := 7) hx hb hts hin hown hK hP 0 rfl rfl 2 (by decide) (hts (.fieldLink RX2 21 "HatReservations$CommandText" "commands" "[LHatReservations$Command;") (by decide +kernel)) (fun _ h9 => h9) rfl dX2_readCommand_73 ?_
            refine lv_iload_n hx hb dX2_readCommand_76 rfl (lv_at hl 4 rfl) ?_
            refine lv_aload_n hx hb dX2_readCommand_77 rfl (lv_at hl 2 rfl) ?_
            refine astE (f := q2 ((fX2_readSign ((fX2_readNumber ((fX2_readKeyword u).2) (kFD.getD jE 0)).2) 32).2)) (i := x1) (j := jE) 2 4 hx hb hK hP hD hS rfl rfl (hX.2.1.1 jE (show jE < kNM.length from readKeyword_lt hR)).2.1 (by omega) (by decide) dX2_readCommand_78 (fun H locs hP hD hS => ?_)
            have hP : va_P D vwCl (CW ca en b (r2 (va_up (q2 ((fX2_readSign ((fX2_readNumber ((fX2_readKeyword u).2) (kFD.getD jE 0)).2) 32).2)) x1 jE) ((fX2_readSign ((fX2_readNumber ((fX2_readKeyword u).2) (kFD.getD jE 0)).2) 32).2))) H := hP
            have hD : va_D A (CW ca en b (r2 (va_up (q2 ((fX2_readSign ((fX2_readNumber ((fX2_readKeyword u).2) (kFD.getD jE 0)).2) 32).2)) x1 jE) ((fX2_readSign ((fX2_readNumber ((fX2_readKeyword u).2) (kFD.getD jE 0)).2) 32).2))) := hD
            refine lv_aload_n hx hb dX2_readCommand_79 rfl (lv_at hl 3 rfl) ?_
            refine va_get (D := D) (ci := 3) (v := .ref (b 2)) (C := RX2) (T := TX2) (N := 7) hx hb hts hin hown hK hP 0 rfl rfl 3 (by decide) (hts (.fieldLink RX2 25 "HatReservations$CommandText" "firsts" "[I") (by decide +kernel)) (fun _ h9 => h9) rfl dX2_readCommand_80 ?_
            refine lv_iload_n hx hb dX2_readCommand_83 rfl (lv_at hl 4 rfl) ?_
            refine lv_iload_n hx hb dX2_readCommand_84 rfl (lv_at hl 1 rfl) ?_
            refine iastN (f := q3 ((fX2_readSign ((fX2_readNumber ((fX2_readKeyword u).2) (kFD.getD jE 0)).2) 32).2)) (k := x1) hx hb hK hP hD hS 3 0 rfl rfl (by omega) (by decide) dX2_readCommand_85 (fun H locs hP hD hS => ?_)
            have hP : va_P D vwCl (CW ca en b (r3 (upd (q3 ((fX2_readSign ((fX2_readNumber ((fX2_readKeyword u).2) (kFD.getD jE 0)).2) 32).2)) x1 ((fX2_readNumber ((fX2_readKeyword u).2) (kFD.getD jE 0)).1)) (r2 (va_up (q2 ((fX2_readSign ((fX2_readNumber ((fX2_readKeyword u).2) (kFD.getD jE 0)).2) 32).2)) x1 jE) ((fX2_readSign ((fX2_readNumber ((fX2_readKeyword u).2) (kFD.getD jE 0)).2) 32).2)))) H := hP
            have hD : va_D A (CW ca en b (r3 (upd (q3 ((fX2_readSign ((fX2_readNumber ((fX2_readKeyword u).2) (kFD.getD jE 0)).2) 32).2)) x1 ((fX2_readNumber ((fX2_readKeyword u).2) (kFD.getD jE 0)).1)) (r2 (va_up (q2 ((fX2_readSign ((fX2_readNumber ((fX2_readKeyword u).2) (kFD.getD jE 0)).2) 32).2)) x1 jE) ((fX2_readSign ((fX2_readNumber ((fX2_readKeyword u).2) (kFD.getD jE 0)).2) 32).2)))) := hD
            refine lv_aload_n hx hb dX2_readCommand_86 rfl (lv_at hl 3 rfl) ?_
            refine va_get (D := D) (ci := 3) (v := .ref (b 3)) (C := RX2) (T := TX2) (N := 7) hx hb hts hin hown hK hP 0 rfl rfl 4 (by decide) (hts (.fieldLink RX2 29 "HatReservations$CommandText" "seconds" "[I") (by decide +kernel)) (fun _ h9 => h9) rfl dX2_readCommand_87 ?_
            refine lv_iload_n hx hb dX2_readCommand_90 rfl (lv_at hl 4 rfl) ?_
            refine lv_iload hx hb dX2_readCommand_91 (lv_at hl 0 rfl) ?_
            refine iastN (f := q4 ((fX2_readSign ((fX2_readNumber ((fX2_readKeyword u).2) (kFD.getD jE 0)).2) 32).2)) (k := x1) hx hb hK hP hD hS 4 0 rfl rfl (by omega) (by decide) dX2_readCommand_93 (fun H locs hP hD hS => ?_)
            have hP : va_P D vwCl (CW ca en b (r4 (upd (q4 ((fX2_readSign ((fX2_readNumber ((fX2_readKeyword u).2) (kFD.getD jE 0)).2) 32).2)) x1 0) (r3 (upd (q3 ((fX2_readSign ((fX2_readNumber ((fX2_readKeyword u).2) (kFD.getD jE 0)).2) 32).2)) x1 ((fX2_readNumber ((fX2_readKeyword u).2) (kFD.getD jE 0)).1)) (r2 (va_up (q2 ((fX2_readSign ((fX2_readNumber ((fX2_readKeyword u).2) (kFD.getD jE 0)).2) 32).2)) x1 jE) ((fX2_readSign ((fX2_readNumber ((fX2_readKeyword u).2) (kFD.getD jE 0)).2) 32).2))))) H := hP
            have hD : va_D A (CW ca en b (r4 (upd (q4 ((fX2_readSign ((fX2_readNumber ((fX2_readKeyword u).2) (kFD.getD jE 0)).2) 32).2)) x1 0) (r3 (upd (q3 ((fX2_readSign ((fX2_readNumber ((fX2_readKeyword u).2) (kFD.getD jE 0)).2) 32).2)) x1 ((fX2_readNumber ((fX2_readKeyword u).2) (kFD.getD jE 0)).1)) (r2 (va_up (q2 ((fX2_readSign ((fX2_readNumber ((fX2_readKeyword u).2) (kFD.getD jE 0)).2) 32).2)) x1 jE) ((fX2_readSign ((fX2_readNumber ((fX2_readKeyword u).2) (kFD.getD jE 0)).2) 32).2))))) := hD
            refine lv_iconst (v := 1) hx hb dX2_readCommand_94 (by decide) ?_
            exact W.zret (ty := .boolean) (v := 1) hx hb hr (by decide) (fun t ht hW => ⟨⟨1, r4 (upd (q4 ((fX2_readSign ((fX2_readNumber ((fX2_readKeyword u).2) (kFD.getD jE 0)).2) 32).2)) x1 0) (r3 (upd (q3 ((fX2_readSign ((fX2_readNumber ((fX2_readKeyword u).2) (kFD.getD jE 0)).2) 32).2)) x1 ((fX2_readNumber ((fX2_readKeyword u).2) (kFD.getD jE 0)).1)) (r2 (va_up (q2 ((fX2_readSign ((fX2_readNumber ((fX2_readKeyword u).2) (kFD.getD jE 0)).2) 32).2)) x1 jE) ((fX2_readSign ((fX2_readNumber ((fX2_readKeyword u).2) (kFD.getD jE 0)).2) 32).2))), rfl, hf.symm, by rw [ht]; exact hP, va_K.moved hW.alike hK, hD⟩, hS.F ht⟩) hS.2.2 dX2_readCommand_95
        · have hf := hf.trans (if_pos c_38)
          refine lv_iconst (v := 0) hx hb dX2_readCommand_41 (by decide) ?_
          exact W.zret (ty := .boolean) (v := 0) hx hb hr (by decide) (fun t ht hW => ⟨⟨0, (fX2_readSign ((fX2_readNumber ((fX2_readKeyword u).2) (kFD.getD jE 0)).2) 32).2, rfl, hf.symm, by rw [ht]; exact hP, va_K.moved hW.alike hK, hD⟩, hS.F ht⟩) hS.2.2 dX2_readCommand_42
theorem optE_p {R : Type} {P : R → Prop} {o : Option Nat} {a : R} {f : Nat → R} (h0 : o = none → P a) (h1 : ∀ j, o = some j → P (f j)) : P (optE o a f) := by
  cases o with
  | none => exact h0 rfl
  | some j => exact h1 j rfl
theorem readCommand_both (u : CS) (x : Nat) (h : CI u) : CI (fX2_readCommand u x).2 := by
  have g1 := readKeyword_CI u () h
  unfold fX2_readCommand
  refine optE_p (P := fun r : Int32 × CS => CI r.2) (fun _ => g1) (fun j hj => ?_)
  have hj := readKeyword_lt hj
  have g2 := readNumber_CI _ (kFD.getD j 0) g1
  have g3 := readSign_CI _ 32 g2
  have g4 := readNumber_CI _ (kSD.getD j 0) g2
  have g5 := readNumber_CI _ (kSD.getD j 0) g3
  have st : ∀ (v : CS) (a b : Int32), CI v → CI (r4 (upd (q4 v) x b) (r3 (upd (q3 v) x a) (r2 (va_up (q2 v) x j) v))) := fun v a b hv => ⟨hv.1, hv.2.1, hv.2.2.1, up_lt hv.2.2.2 hj⟩
  repeat' split
  all_goals first | exact g2 | exact g3 | exact g4 | exact g5 | exact st _ _ _ g2 | exact st _ _ _ g3 | exact st _ _ _ g4 | exact st _ _ _ g5
theorem readCommand_CI (u : CS) (x : Nat) (h : CI u) : CI (fX2_readCommand u x).2 := readCommand_both u x h
theorem readCommand_q5 (u : CS) (x : Nat) : q5 (fX2_readCommand u x).2 = q5 u := by
  have g1 := readKeyword_q5 u
  unfold fX2_readCommand
  refine optE_p (P := fun r : Int32 × CS => q5 r.2 = q5 u) (fun _ => g1) (fun j hj => ?_)
  have g2 := (readNumber_q5 (fX2_readKeyword u).2 (kFD.getD j 0)).trans g1
  have g3 := (readSign_q5 (fX2_readNumber (fX2_readKeyword u).2 (kFD.getD j 0)).2 32).trans g2
  have g4 := (readNumber_q5 (fX2_readNumber (fX2_readKeyword u).2 (kFD.getD j 0)).2 (kSD.getD j 0)).trans g2
  have g5 := (readNumber_q5 (fX2_readSign (fX2_readNumber (fX2_readKeyword u).2 (kFD.getD j 0)).2 32).2 (kSD.getD j 0)).trans g3
  repeat' split
  all_goals first | exact g2 | exact g3 | exact g4 | exact g5
def fX2_read_12 : Nat → Nat → CS → Int32 × CS
  | 0, k, v => (0, v)
  | n + 1, k, v => (if ((fX2_readCommand v k).1) = 0 then (0, (fX2_readCommand v k).2) else (if (q6 ((fX2_readCommand v k).2)) = (q1 ((fX2_readCommand v k).2)) then (1, r5 ((q5 ((fX2_readCommand v k).2)) + 1) ((fX2_readCommand v k).2)) else (if ((fX2_readSign (r5 ((q5 ((fX2_readCommand v k).2)) + 1) ((fX2_readCommand v k).2)) 59).1) = 0 then (0, (fX2_readSign (r5 ((q5 ((fX2_readCommand v k).2)) + 1) ((fX2_readCommand v k).2)) 59).2) else fX2_read_12 n (k + 1) ((fX2_readSign (r5 ((q5 ((fX2_readCommand v k).2)) + 1) ((fX2_readCommand v k).2)) 59).2))))
def fX2_read (u : CS) : Int32 × CS :=
  fX2_read_12 10 0 (r6 0 (r5 0 u))
set_option maxHeartbeats 4000000 in
set_option maxRecDepth 100000 in
/-- read -/
theorem kX2_read (l : Launch) (D : va_G) (ca : Nat → ClassId) (en ks vs : Nat → Nat) (b : Nat → Nat) (sz : Nat) (u : CS) (hci : WI u) : Met l yX2_read wsX2_read ({ frames := 7, cells := 0, slots := 0, locals := 158 }) (MGPc D ca (KX en ks vs) sz (CW ca en b u) [.ref (b 4)]) (va_Qi (fun r v => (r, v) = fX2_read u) (MB D ca (va_A (CW ca en b u) sz) (fun v => CW ca en b v)) (va_A (CW ca en b u) sz)) 0 0 (va_A (CW ca en b u) sz) := by
  refine Met.ofW (cc := cX2_read) (maxL := 2) (ret := (some .boolean)) (by decide) rfl ?_
  intro p e s m args below meth c s₁ B hml hv
  obtain ⟨rfl, hsz, hP, hK, hD0, hX⟩ := hv
  have hx := B.exec
  have hb := B.bytes
  have hr := B.returns
  have hts := atoms_spec (ws := wsX2_read) B.pre
  have hown : s.vm.findClass RX2 = some m.cls := findClass_of_methodNamed B.named
  have hlocks := B.notSynchronized
  have hin : ∀ w ∈ wsX20, w ∈ wsX2_read := by decide +kernel
  obtain ⟨hc1, hc2, hc3, hc4⟩ := id hci
  subst hsz
  have hD := hD0.self (sz := s.heap.size)
  generalize hAe : va_A (CW ca en b u) s.heap.size = A at hD hX ⊢
  have hA : ∀ q : Nat, s.heap.size ≤ q → A q := fun q h => by rw [← hAe]; exact Or.inr h
  have hS : va_S A s.heap s.heap [] := va_S.rf
  have cut_12 : ∀ (n k : Nat) (hnk : n + k = 10) (v : CS) (hci : CI v) (hq5 : q5 v = k) (H : Heap) (locs : List Loc) (hP : va_P D vwCl (CW ca en b v) H) (hD : va_D A (CW ca en b v)) (hS : va_S A s.heap H locs) (hf : fX2_read u = fX2_read_12 n k v) (ls : Array Slot) (hl : lv_has ls 2 [(0, .ref (b 4)), (1, .int (nI k))]), W p l e (headSpec wsX2_read ({ frames := 7, cells := 0, slots := 0, locals := 158 })).room s m ([.ref (b 4)] : List Value).toArray below meth c H locs 0 0 (MQ below (va_Qi (fun r v => (r, v) = fX2_read u) (MB D ca A (fun v => CW ca en b v)) A) ([.ref (b 4)] : List Value).toArray s 0 0 A) (F0 m 12 ls []) := by
    intro n
    induction n with
    | zero =>
      intro k hnk v hci hq5 H locs hP hD hS hf ls hl
      obtain rfl : 10 = k := by omega
      obtain ⟨hc1, hc2, hc3, hc4⟩ := id hci
      refine lv_iload_n hx hb dX2_read_12 rfl (lv_at hl 1 rfl) ?_
      refine lv_bipush (v := 10) hx hb dX2_read_13 (by decide) ?_
      refine lv_icmp_ge (tgt := 68) hx hb dX2_read_15 (by decide) (fun _ => ?_) (fun q => absurd (nI_le (a := 10) (b := 10) (Nat.le_refl _) (by omega)) q)
      refine lv_iconst (v := 0) hx hb dX2_read_68 (by decide) ?_
      exact W.zret (ty := .boolean) (v := 0) hx hb hr (by decide) (fun t ht hW => ⟨⟨0, v, rfl, hf.symm, by rw [ht]; exact hP, va_K.moved hW.alike hK, hD⟩, hS.F ht⟩) hS.2.2 dX2_read_69
    | succ n ih =>
      intro k hnk v hci hq5 H locs hP hD hS hf ls hl
      obtain ⟨hc1, hc2, hc3, hc4⟩ := id hci
      refine lv_iload_n hx hb dX2_read_12 rfl (lv_at hl 1 rfl) ?_
      refine lv_bipush (v := 10) hx hb dX2_read_13 (by decide) ?_
      refine lv_icmp_ge (tgt := 68) hx hb dX2_read_15 (by decide) (fun q => absurd q (show ¬ (10 : Int32) ≤ nI k from nI_ge (b := 10) (by omega) (by omega))) (fun _ => ?_)
      refine lv_aload_n hx hb dX2_read_18 rfl (lv_at hl 0 rfl) ?_
      refine lv_iload_n hx hb dX2_read_19 rfl (lv_at hl 1 rfl) ?_
      refine hcGMi (As := [.int (nI k)]) (rest := []) (wr := []) (f := fun v => CW ca en b v) (F := fX2_readCommand v k) 0 3 (KX_ok en ks vs) ⟨hx, hb, hml, hown, hts⟩ (kX2_readCommand l D ca en ks vs b _ v k hci (show k < 10 by omega)) (cwV 1 hts gX2_read_X2_readCommand rfl rfl rfl (by decide +kernel) ⟨Nat.le_of_ble_eq_true rfl, Nat.le_of_ble_eq_true rfl⟩) hK hP hD hS hA hX (List.Perm.refl _) rfl rfl rfl hl.1 rfl (Nat.le_of_ble_eq_true rfl) ⟨Nat.zero_le _, Nat.zero_le _⟩ dX2_read_20 (fun H locs hP hD hS => ?_)
      have hP : va_P D vwCl (CW ca en b ((fX2_readCommand v k).2)) H := hP
      have hD : va_D A (CW ca en b ((fX2_readCommand v k).2)) := hD
      have hq9 : q5 ((fX2_readCommand v k).2) = q5 v := readCommand_q5 _ _
      have hci : CI ((fX2_readCommand v k).2) := readCommand_CI _ _ hci
      obtain ⟨hc1, hc2, hc3, hc4⟩ := id hci
      refine lv_if_ne (tgt := 28) hx hb dX2_read_23 (by decide) (fun c_23 => ?_) (fun c_23 => ?_)
      · have hf := hf.trans (if_neg c_23)
        refine lv_aload_n hx hb dX2_read_28 rfl (lv_at hl 0 rfl) ?_
        refine lv_dup hx hb dX2_read_29 rfl ?_
        refine va_get (D := D) (ci := 3) (v := .int (nI (q5 ((fX2_readCommand v k).2)))) (C := RX2) (T := TX2) (N := 7) hx hb hts hin hown hK hP 0 rfl rfl 5 (by decide) (hts (.fieldLink RX2 32 "HatReservations$CommandText" "commandCount" "I") (by decide +kernel)) (fun _ h9 => h9) rfl dX2_read_30 ?_
        refine lv_iconst (v := 1) hx hb dX2_read_33 (by decide) ?_
        refine iaddN (a := (q5 ((fX2_readCommand v k).2))) (b := 1) hx hb dX2_read_34 ?_
        refine va_put (D := D) (ci := 3) (v := .int (nI ((q5 ((fX2_readCommand v k).2)) + 1))) (ty := .int) (C := RX2) (T := TX2) (N := 7) hx hb hts hin tyX2 tyX2_ok nmX2 hown hK hP hD hS 0 rfl rfl 5 (by decide) (hts (.fieldLink RX2 32 "HatReservations$CommandText" "commandCount" "I") (by decide +kernel)) (fun _ h9 => h9) rfl (by decide +kernel) rfl rfl (Nat.le_of_ble_eq_true rfl) dX2_read_35 (fun H locs hP hD hS => ?_)
        have hP : va_P D vwCl (CW ca en b (r5 ((q5 ((fX2_readCommand v k).2)) + 1) ((fX2_readCommand v k).2))) H := hP
        have hD : va_D A (CW ca en b (r5 ((q5 ((fX2_readCommand v k).2)) + 1) ((fX2_readCommand v k).2))) := hD
        refine lv_aload_n hx hb dX2_read_38 rfl (lv_at hl 0 rfl) ?_
        refine va_get (D := D) (ci := 3) (v := .int (nI (q6 ((fX2_readCommand v k).2)))) (C := RX2) (T := TX2) (N := 7) hx hb hts hin hown hK hP 0 rfl rfl 6 (by decide) (hts (.fieldLink RX2 35 "HatReservations$CommandText" "position" "I") (by decide +kernel)) (fun _ h9 => h9) rfl dX2_read_39 ?_
        refine lv_aload_n hx hb dX2_read_42 rfl (lv_at hl 0 rfl) ?_
        refine va_get (D := D) (ci := 3) (v := .int (nI (q1 ((fX2_readCommand v k).2)))) (C := RX2) (T := TX2) (N := 7) hx hb hts hin hown hK hP 0 rfl rfl 1 (by decide) (hts (.fieldLink RX2 15 "HatReservations$CommandText" "length" "I") (by decide +kernel)) (fun _ h9 => h9) rfl dX2_read_43 ?_
        refine icmpneN (a := (q6 ((fX2_readCommand v k).2))) (b := (q1 ((fX2_readCommand v k).2))) (tgt := 51) hx hb dX2_read_46 (by decide) (by omega) (by omega) (fun c_46 => ?_) (fun c_46 => ?_)
        · have hf := hf.trans (if_neg c_46)
          refine lv_aload_n hx hb dX2_read_51 rfl (lv_at hl 0 rfl) ?_
          refine lv_bipush (v := 59) hx hb dX2_read_52 (by decide) ?_
          refine hcMi (As := [.int 59]) (rest := []) (wr := []) (f := fun v => CW ca en b v) (F := fX2_readSign (r5 ((q5 ((fX2_readCommand v k).2)) + 1) ((fX2_readCommand v k).2)) 59) 0 3 ⟨hx, hb, hml, hown, hts⟩ (kX2_readSign l D ca en ks vs b _ (r5 ((q5 ((fX2_readCommand v k).2)) + 1) ((fX2_readCommand v k).2)) 59 (by refine ⟨hc1, hc2, ?_, hc4⟩; show q5 _ + 1 ≤ 10; omega)) (cwV 1 hts gX2_read_X2_readSign rfl rfl rfl (by decide +kernel) ⟨Nat.le_of_ble_eq_true rfl, Nat.le_of_ble_eq_true rfl⟩) hK hP hD hS hA (List.Perm.refl _) rfl rfl rfl hl.1 rfl (Nat.le_of_ble_eq_true rfl) ⟨Nat.zero_le _, Nat.zero_le _⟩ dX2_read_54 (fun H locs hP hD hS => ?_)
          have hP : va_P D vwCl (CW ca en b ((fX2_readSign (r5 ((q5 ((fX2_readCommand v k).2)) + 1) ((fX2_readCommand v k).2)) 59).2)) H := hP
          have hD : va_D A (CW ca en b ((fX2_readSign (r5 ((q5 ((fX2_readCommand v k).2)) + 1) ((fX2_readCommand v k).2)) 59).2)) := hD
          have hci : CI ((fX2_readSign (r5 ((q5 ((fX2_readCommand v k).2)) + 1) ((fX2_readCommand v k).2)) 59).2) := readSign_CI _ _ (by refine ⟨hc1, hc2, ?_, hc4⟩; show q5 _ + 1 ≤ 10; omega)
          obtain ⟨hc1, hc2, hc3, hc4⟩ := id hci
          refine lv_if_ne (tgt := 62) hx hb dX2_read_57 (by decide) (fun c_57 => ?_) (fun c_57 => ?_)
          · have hf := hf.trans (if_neg c_57)
            refine lv_iinc (v := nI (k + 1)) (lv' := [(1, .int (nI (k + 1))), (0, .ref (b 4))]) hx hb dX2_read_62 hl (k := 1) rfl (nI_1 k) (by decide) rfl (fun ls hl => ?_)
            refine lv_goto (tgt := 12) hx hb dX2_read_65 (by decide) ?_
            exact ih (k + 1) (by omega)  ((fX2_readSign (r5 ((q5 ((fX2_readCommand v k).2)) + 1) ((fX2_readCommand v k).2)) 59).2) (by first | exact hci | exact ⟨hc1, Nat.zero_le _, Nat.zero_le _, hc4⟩) (by first | (rw [readSign_q5]; show q5 _ + 1 = k + 1; omega) | rfl) _ _ hP hD hS hf ls (lv_sub hl [1, 0] rfl)
          · have hf := hf.trans (if_pos c_57)
            refine lv_iconst (v := 0) hx hb dX2_read_60 (by decide) ?_
            exact W.zret (ty := .boolean) (v := 0) hx hb hr (by decide) (fun t ht hW => ⟨⟨0, (fX2_readSign (r5 ((q5 ((fX2_readCommand v k).2)) + 1) ((fX2_readCommand v k).2)) 59).2, rfl, hf.symm, by rw [ht]; exact hP, va_K.moved hW.alike hK, hD⟩, hS.F ht⟩) hS.2.2 dX2_read_61
        · have hf := hf.trans (if_pos c_46)
          refine lv_iconst (v := 1) hx hb dX2_read_49 (by decide) ?_
          exact W.zret (ty := .boolean) (v := 1) hx hb hr (by decide) (fun t ht hW => ⟨⟨1, r5 ((q5 ((fX2_readCommand v k).2)) + 1) ((fX2_readCommand v k).2), rfl, hf.symm, by rw [ht]; exact hP, va_K.moved hW.alike hK, hD⟩, hS.F ht⟩) hS.2.2 dX2_read_50
      · have hf := hf.trans (if_pos c_23)
        refine lv_iconst (v := 0) hx hb dX2_read_26 (by decide) ?_
        exact W.zret (ty := .boolean) (v := 0) hx hb hr (by decide) (fun t ht hW => ⟨⟨0, (fX2_readCommand v k).2, rfl, hf.symm, by rw [ht]; exact hP, va_K.moved hW.alike hK, hD⟩, hS.F ht⟩) hS.2.2 dX2_read_27
  have hf : fX2_read u = fX2_read u := rfl
  refine W_entry (Nat.le_of_ble_eq_true rfl) (fun ls hl => ?_)
  have hl : lv_has ls 2 [(0, .ref (b 4))] := hl
  refine lv_aload_n hx hb dX2_read_0 rfl (lv_at hl 0 rfl) ?_
  refine lv_iconst (v := 0) hx hb dX2_read_1 (by decide) ?_
  refine va_put (D := D) (ci := 3) (v := .int (nI 0)) (ty := .int) (C := RX2) (T := TX2) (N := 7) hx hb hts hin tyX2 tyX2_ok nmX2 hown hK hP hD hS 0 rfl rfl 6 (by decide) (hts (.fieldLink RX2 35 "HatReservations$CommandText" "position" "I") (by decide +kernel)) (fun _ h9 => h9) rfl (by decide +kernel) rfl rfl (Nat.le_of_ble_eq_true rfl) dX2_read_2 (fun H locs hP hD hS => ?_)
  have hP : va_P D vwCl (CW ca en b (r6 0 u)) H := hP
  have hD : va_D A (CW ca en b (r6 0 u)) := hD
  refine lv_aload_n hx hb dX2_read_5 rfl (lv_at hl 0 rfl) ?_
  refine lv_iconst (v := 0) hx hb dX2_read_6 (by decide) ?_
  refine va_put (D := D) (ci := 3) (v := .int (nI 0)) (ty := .int) (C := RX2) (T := TX2) (N := 7) hx hb hts hin tyX2 tyX2_ok nmX2 hown hK hP hD hS 0 rfl rfl 5 (by decide) (hts (.fieldLink RX2 32 "HatReservations$CommandText" "commandCount" "I") (by decide +kernel)) (fun _ h9 => h9) rfl (by decide +kernel) rfl rfl (Nat.le_of_ble_eq_true rfl) dX2_read_7 (fun H locs hP hD hS => ?_)
  have hP : va_P D vwCl (CW ca en b (r6 0 (r5 0 u))) H := hP
  have hD : va_D A (CW ca en b (r6 0 (r5 0 u))) := hD
  refine lv_iconst (v := 0) hx hb dX2_read_10 (by decide) ?_
  refine lv_istore_n (lv' := [(1, .int 0), (0, .ref (b 4))]) hx hb dX2_read_11 rfl hl (by decide) rfl (fun ls hl => ?_)
  exact cut_12 10 0 (by omega)  (r6 0 (r5 0 u)) (by first | exact hci | exact ⟨hc1, Nat.zero_le _, Nat.zero_le _, hc4⟩) (by first | (rw [readSign_q5]; show q5 _ + 1 = k + 1; omega) | rfl) _ _ hP hD hS hf ls (lv_sub hl [1, 0] rfl)
theorem read12_CI : ∀ (n k : Nat) (v : CS), n + k = 10 → CI v → q5 v = k → CI (fX2_read_12 n k v).2 := by
  intro n
  induction n with
  | zero => intro k v _ h _; exact h
  | succ n ih =>
    intro k v hk h hq
    have g1 := readCommand_CI v k h
    have e1 := readCommand_q5 v k
    have g2 : CI (r5 (q5 (fX2_readCommand v k).2 + 1) (fX2_readCommand v k).2) := ⟨g1.1, g1.2.1, (show q5 (fX2_readCommand v k).2 + 1 ≤ 10 by omega), g1.2.2.2⟩
    rw [fX2_read_12]
    split
    · exact g1
    · split
      · exact g2
      · split
        · exact readSign_CI _ _ g2
        · exact ih (k + 1) _ (by omega) (readSign_CI _ _ g2) (by rw [readSign_q5]; show q5 _ + 1 = k + 1; omega)
theorem read_CI (u : CS) (h : WI u) : CI (fX2_read u).2 := read12_CI 10 0 _ rfl ⟨h.1, Nat.zero_le _, Nat.zero_le _, h.2.2.2⟩ rfl
