/-! the builder: numbers of one digit, its text as a String -/
theorem dg_tab : ∀ d, d < 10 → ¬ (nI d : Int32) < 0 ∧ ¬ -(nI d) ≤ (-10 : Int32) ∧ (0 : Int32) ≤ nI d ∧ (-100 : Int32) < -(nI d) ∧ -(-(nI d)) = nI d ∧ (-9 : Int32) ≤ -(nI d) := by decide +kernel
theorem nI_dec : ∀ k, k < 16 → nI (k + 1) + (-1) = nI k := by decide +kernel
theorem sub_tab : ∀ n, n < 17 → nI n - 0 = nI n ∧ (if nI n < 16 then nI n else 16) = nI n ∧ (0 : Int32) ≤ nI n := by decide +kernel
theorem fit_cell {cA : ClassId} {n : Nat} {f : Nat → Int32} (hf : FB f) : ∀ (i : Nat) (v : Value), (vp_cell cA (n, .inl f)).slots[i]? = some v → fits .byte v = true := by
  intro i v h
  rw [vp_cell_i] at h
  rcases Nat.lt_or_ge i n with hi | hi
  · rw [arrV_read _ _ hi] at h
    cases h
    exact hf i
  · rw [Array.getElem?_eq_none (by rw [arrV_size]; exact hi)] at h
    cases h
set_option maxHeartbeats 4000000 in
set_option maxRecDepth 100000 in
theorem kJ6_stringSize_0f7a4 (l : Launch) (d : Nat) (hd : d < 10) : Met l yJ6_stringSize_0f7a4 wsJ6_stringSize_0f7a4 ({ frames := 0, cells := 0, slots := 0, locals := 0 }) (va_Pc [.int (nI d)] (fun _ => True)) (vp_Si (fun r => r = 1)) 0 0 (fun _ => False) := by
  refine Met.ofW (cc := cJ6_stringSize_0f7a4) (maxL := 4) (ret := some .int) (by decide) rfl ?_
  intro p e s m args below meth c s₁ B hml hv
  obtain ⟨rfl, -⟩ := hv
  have hx := B.exec
  have hb := B.bytes
  have hr := B.returns
  have hts := atoms_spec (ws := wsJ6_stringSize_0f7a4) B.pre
  have hlocks := B.notSynchronized
  obtain ⟨t1, t2, t3, t4, t5, t6⟩ := dg_tab d hd
  refine W_entry (Nat.le_of_ble_eq_true rfl) (fun ls hl => ?_)
  have hl : lv_has ls 4 [(0, .int (nI d))] := hl
  refine lv_iconst (v := 1) hx hb dJ6_stringSize_0f7a4_0 (by decide) ?_
  refine lv_istore_n (lv' := [(1, .int 1), (0, .int (nI d))]) hx hb dJ6_stringSize_0f7a4_1 rfl hl (by decide) rfl (fun ls hl => ?_)
  refine lv_iload_n hx hb dJ6_stringSize_0f7a4_2 rfl (lv_at hl 1 rfl) ?_
  refine lv_if_lt (tgt := 11) hx hb dJ6_stringSize_0f7a4_3 (by decide) (fun q => absurd q t1) (fun _ => ?_)
  refine lv_iconst (v := 0) hx hb dJ6_stringSize_0f7a4_6 (by decide) ?_
  refine lv_istore_n (lv' := [(1, .int 0), (0, .int (nI d))]) hx hb dJ6_stringSize_0f7a4_7 rfl hl (by decide) rfl (fun ls hl => ?_)
  refine lv_iload_n hx hb dJ6_stringSize_0f7a4_8 rfl (lv_at hl 1 rfl) ?_
  refine lv_ineg hx hb dJ6_stringSize_0f7a4_9 ?_
  refine lv_istore_n (lv' := [(0, .int (-(nI d))), (1, .int 0)]) hx hb dJ6_stringSize_0f7a4_10 rfl hl (by decide) rfl (fun ls hl => ?_)
  refine lv_bipush (v := (-10)) hx hb dJ6_stringSize_0f7a4_11 (by decide) ?_
  refine lv_istore_n (lv' := [(2, .int (-10)), (0, .int (-(nI d))), (1, .int 0)]) hx hb dJ6_stringSize_0f7a4_13 rfl hl (by decide) rfl (fun ls hl => ?_)
  refine lv_iconst (v := 1) hx hb dJ6_stringSize_0f7a4_14 (by decide) ?_
  refine lv_istore_n (lv' := [(3, .int 1), (2, .int (-10)), (0, .int (-(nI d))), (1, .int 0)]) hx hb dJ6_stringSize_0f7a4_15 rfl hl (by decide) rfl (fun ls hl => ?_)
  refine lv_iload_n hx hb dJ6_stringSize_0f7a4_16 rfl (lv_at hl 0 rfl) ?_
  refine lv_bipush (v := 10) hx hb dJ6_stringSize_0f7a4_17 (by decide) ?_
  refine lv_icmp_ge (tgt := 42) hx hb dJ6_stringSize_0f7a4_19 (by decide) (fun q => absurd q (by decide)) (fun _ => ?_)
  refine lv_iload_n hx hb dJ6_stringSize_0f7a4_22 rfl (lv_at hl 2 rfl) ?_
  refine lv_iload_n hx hb dJ6_stringSize_0f7a4_23 rfl (lv_at hl 1 rfl) ?_
  refine lv_icmp_le (tgt := 31) hx hb dJ6_stringSize_0f7a4_24 (by decide) (fun q => absurd q t2) (fun _ => ?_)
  refine lv_iload_n hx hb dJ6_stringSize_0f7a4_27 rfl (lv_at hl 0 rfl) ?_
  refine lv_iload_n hx hb dJ6_stringSize_0f7a4_28 rfl (lv_at hl 3 rfl) ?_
  refine lv_iadd hx hb dJ6_stringSize_0f7a4_29 ?_
  exact W.iret hx hb hr (fun t ht hW => ⟨_, rfl, (by decide), ht⟩) (fun _ h => by cases h) dJ6_stringSize_0f7a4_30
set_option maxHeartbeats 4000000 in
set_option maxRecDepth 100000 in
theorem kJ6_getChars_ba4f3 (l : Launch) (D : va_G) (ca : Nat → ClassId) (en ks vs lk lv : Nat → Nat) (sz : Nat) (vb : Nat) (f : Nat → Int32) (d i : Nat) (hd : d < 10) (hi : i < 16) : Met l yJ6_getChars_ba4f3 wsJ6_getChars_ba4f3 ({ frames := 0, cells := 0, slots := 0, locals := 0 }) (MGPc D ca (YX en ks vs lk lv) sz [BWa ca vb f] [.int (nI d), .int (nI (i + 1)), .ref vb]) (va_Qi (fun _ (_ : Unit) => True) (MB D ca (va_A [BWa ca vb f] sz) (fun _ : Unit => [BWa ca vb (upd f i (vp_nar .byte (digF d)))])) (va_A [BWa ca vb f] sz)) 0 0 (va_A [BWa ca vb f] sz) := by
  refine Met.ofW (cc := cJ6_getChars_ba4f3) (maxL := 7) (ret := (some .int)) (by decide) rfl ?_
  intro p e s m args below meth c s₁ B hml hv
  obtain ⟨rfl, hsz, hP, hK, hD0, hY⟩ := hv
  have hx := B.exec
  have hb := B.bytes
  have hr := B.returns
  have hts := atoms_spec (ws := wsJ6_getChars_ba4f3) B.pre
  have hown : s.vm.findClass RJ6 = some m.cls := findClass_of_methodNamed B.named
  have hlocks := B.notSynchronized
  subst hsz
  have hD := hD0.self (sz := s.heap.size)
  generalize hAe : va_A [BWa ca vb f] s.heap.size = A at hD hY ⊢
  have hA : ∀ q : Nat, s.heap.size ≤ q → A q := fun q h => by rw [← hAe]; exact Or.inr h
  have hS : va_S A s.heap s.heap [] := va_S.rf
  refine W_entry (Nat.le_of_ble_eq_true rfl) (fun ls hl => ?_)
  have hl : lv_has ls 7 [(0, .int (nI d)), (1, .int (nI (i + 1))), (2, .ref vb)] := hl
  obtain ⟨t1, t2, t3, t4, t5, t6⟩ := dg_tab d hd
  obtain ⟨t9, hZ, hZT⟩ := hY.2.2.1
  refine lv_iload_n hx hb dJ6_getChars_ba4f3_0 rfl (lv_at hl 1 rfl) ?_
  refine lv_istore (lv' := [(5, .int (nI (i + 1))), (0, .int (nI d)), (1, .int (nI (i + 1))), (2, .ref vb)]) hx hb dJ6_getChars_ba4f3_1 hl (by decide) rfl (fun ls hl => ?_)
  refine lv_iload_n hx hb dJ6_getChars_ba4f3_3 rfl (lv_at hl 1 rfl) ?_
  refine lv_if_ge (tgt := 11) hx hb dJ6_getChars_ba4f3_4 (by decide) (fun _ => ?_) (fun q => absurd t3 q)
  refine lv_iconst (v := 0) hx hb dJ6_getChars_ba4f3_11 (by decide) ?_
  refine lv_istore (lv' := [(6, .int 0), (5, .int (nI (i + 1))), (0, .int (nI d)), (1, .int (nI (i + 1))), (2, .ref vb)]) hx hb dJ6_getChars_ba4f3_12 hl (by decide) rfl (fun ls hl => ?_)
  refine lv_iload hx hb dJ6_getChars_ba4f3_14 (lv_at hl 0 rfl) ?_
  refine lv_if_ne (tgt := 22) hx hb dJ6_getChars_ba4f3_16 (by decide) (fun q => absurd rfl q) (fun _ => ?_)
  refine lv_iload_n hx hb dJ6_getChars_ba4f3_19 rfl (lv_at hl 2 rfl) ?_
  refine lv_ineg hx hb dJ6_getChars_ba4f3_20 ?_
  refine lv_istore_n (lv' := [(0, .int (-(nI d))), (6, .int 0), (5, .int (nI (i + 1))), (1, .int (nI (i + 1))), (2, .ref vb)]) hx hb dJ6_getChars_ba4f3_21 rfl hl (by decide) rfl (fun ls hl => ?_)
  refine lv_iload_n hx hb dJ6_getChars_ba4f3_22 rfl (lv_at hl 0 rfl) ?_
  refine lv_bipush (v := (-100)) hx hb dJ6_getChars_ba4f3_23 (by decide) ?_
  refine lv_icmp_gt (tgt := 72) hx hb dJ6_getChars_ba4f3_25 (by decide) (fun _ => ?_) (fun q => absurd t4 q)
  refine lv_aload_n hx hb dJ6_getChars_ba4f3_72 rfl (lv_at hl 4 rfl) ?_
  refine lv_iinc (v := nI i) (lv' := [(5, .int (nI i)), (0, .int (-(nI d))), (6, .int 0), (1, .int (nI (i + 1))), (2, .ref vb)]) hx hb dJ6_getChars_ba4f3_73 hl (k := 2) rfl (nI_dec i (by omega)) (by decide) rfl (fun ls hl => ?_)
  refine lv_iload hx hb dJ6_getChars_ba4f3_76 (lv_at hl 0 rfl) ?_
  refine va_gets hx hb hZ hS hown (hts (.fieldLink RJ6 83 "java/lang/Integer" "DigitOnes" "[B") (by decide +kernel)) (fun _ h9 => h9) dJ6_getChars_ba4f3_78 ?_
  refine lv_iload_n hx hb dJ6_getChars_ba4f3_81 rfl (lv_at hl 1 rfl) ?_
  refine lv_ineg hx hb dJ6_getChars_ba4f3_82 ?_
  refine lv_to (y := nI d) t5 ?_
  refine va_tb hx hb hZT hS (vp_in_nI (by omega) (by decide)) (v := .int (digF d)) (by show Value.int (digF (nI d).toNatClampNeg) = _; rw [nI_clamp (by omega)]) dJ6_getChars_ba4f3_83 ?_
  refine va_bast hx hb hK hP hD hS 0 5 rfl rfl (vp_in_nI (by omega) (by decide)) dJ6_getChars_ba4f3_84 (fun H locs hP hD hS => ?_)
  have e1 : (nI i).toNatClampNeg = i := nI_clamp (by omega)
  have hP : va_P D vwCl [BWa ca vb (upd f i (vp_nar .byte (digF d)))] H := by
    have h := hP
    rw [e1] at h
    exact h
  have hD : va_D A [BWa ca vb (upd f i (vp_nar .byte (digF d)))] := by
    have h := hD
    rw [e1] at h
    exact h
  refine lv_iload_n hx hb dJ6_getChars_ba4f3_85 rfl (lv_at hl 1 rfl) ?_
  refine lv_bipush (v := (-9)) hx hb dJ6_getChars_ba4f3_86 (by decide) ?_
  refine lv_icmp_ge (tgt := 104) hx hb dJ6_getChars_ba4f3_88 (by decide) (fun _ => ?_) (fun q => absurd t6 q)
  refine lv_iload hx hb dJ6_getChars_ba4f3_104 (lv_at hl 2 rfl) ?_
  refine lv_if_eq (tgt := 118) hx hb dJ6_getChars_ba4f3_106 (by decide) (fun _ => ?_) (fun q => absurd rfl q)
  refine lv_iload hx hb dJ6_getChars_ba4f3_118 (lv_at hl 0 rfl) ?_
  exact W.iret hx hb hr (fun t ht hW => ⟨⟨_, (), rfl, trivial, by rw [ht]; exact hP, va_K.moved hW.alike hK, hD⟩, hS.F ht⟩) hS.2.2 dJ6_getChars_ba4f3_120
set_option maxHeartbeats 4000000 in
set_option maxRecDepth 100000 in
theorem kJ5_isLatin1_aae02 (l : Launch) (D : va_G) (ca : Nat → ClassId) (en ks vs lk lv : Nat → Nat) (sz : Nat) (sb vb cnt : Nat) (f : Nat → Int32) : Met l yJ5_isLatin1_aae02 wsJ5_isLatin1_aae02 ({ frames := 0, cells := 0, slots := 0, locals := 0 }) (MGPc D ca (YX en ks vs lk lv) sz [BWo sb vb cnt, BWa ca vb f] [.ref sb]) (va_Qi (fun r (_ : Unit) => r = 1) (MB D ca (va_A [BWo sb vb cnt, BWa ca vb f] sz) (fun _ : Unit => [BWo sb vb cnt, BWa ca vb f])) (va_A [BWo sb vb cnt, BWa ca vb f] sz)) 0 0 (va_A [BWo sb vb cnt, BWa ca vb f] sz) := by
  refine Met.ofW (cc := cJ5_isLatin1_aae02) (maxL := 1) (ret := (some .boolean)) (by decide) rfl ?_
  intro p e s m args below meth c s₁ B hml hv
  obtain ⟨rfl, hsz, hP, hK, hD0, hY⟩ := hv
  have hx := B.exec
  have hb := B.bytes
  have hr := B.returns
  have hts := atoms_spec (ws := wsJ5_isLatin1_aae02) B.pre
  have hown : s.vm.findClass RJ5 = some m.cls := findClass_of_methodNamed B.named
  have hlocks := B.notSynchronized
  subst hsz
  have hD := hD0.self (sz := s.heap.size)
  generalize hAe : va_A [BWo sb vb cnt, BWa ca vb f] s.heap.size = A at hD hY ⊢
  have hA : ∀ q : Nat, s.heap.size ≤ q → A q := fun q h => by rw [← hAe]; exact Or.inr h
  have hS : va_S A s.heap s.heap [] := va_S.rf
  have hin4 : ∀ w ∈ wsJ40, w ∈ wsJ5_isLatin1_aae02 := by decide +kernel
  refine W_entry (Nat.le_of_ble_eq_true rfl) (fun ls hl => ?_)
  have hl : lv_has ls 1 [(0, .ref sb)] := hl
  refine va_gets hx hb hY.1.1.1.1 hS hown (hts (.fieldLink RJ5 18 "java/lang/String" "COMPACT_STRINGS" "Z") (by decide +kernel)) (fun _ h9 => h9) dJ5_isLatin1_aae02_0 ?_
  refine lv_if_eq (tgt := 17) hx hb dJ5_isLatin1_aae02_3 (by decide) (fun q => absurd q (by decide)) (fun _ => ?_)
  refine lv_aload_n hx hb dJ5_isLatin1_aae02_6 rfl (lv_at hl 0 rfl) ?_
  refine va_get (D := D) (ci := 1) (v := .int 0) (C := RJ4) (T := TJ4) (N := 4) hx hb hts hin4 hown hK hP 0 rfl rfl 1 (by decide) (hts (.fieldLink RJ5 22 "java/lang/AbstractStringBuilder" "coder" "B") (by decide +kernel)) (fun _ h9 => h9) rfl dJ5_isLatin1_aae02_7 ?_
  refine lv_if_ne (tgt := 17) hx hb dJ5_isLatin1_aae02_10 (by decide) (fun q => absurd rfl q) (fun _ => ?_)
  refine lv_iconst (v := 1) hx hb dJ5_isLatin1_aae02_13 (by decide) ?_
  refine lv_goto (tgt := 18) hx hb dJ5_isLatin1_aae02_14 (by decide) ?_
  exact W.zret (ty := .boolean) (v := 1) hx hb hr (by decide) (fun t ht hW => ⟨⟨1, (), rfl, rfl, by rw [ht]; exact hP, va_K.moved hW.alike hK, hD⟩, hS.F ht⟩) hS.2.2 dJ5_isLatin1_aae02_18
set_option maxHeartbeats 4000000 in
set_option maxRecDepth 100000 in
theorem kJ5_append_c97b9 (l : Launch) (D : va_G) (ca : Nat → ClassId) (en ks vs lk lv : Nat → Nat) (sz : Nat) (sb vb cnt : Nat) (f : Nat → Int32) (d : Nat) (hd : d < 10) (hc : cnt < 16) : Met l yJ5_append_c97b9 wsJ5_append_c97b9 ({ frames := 1, cells := 0, slots := 0, locals := 26 }) (MGPc D ca (YX en ks vs lk lv) sz [BWo sb vb cnt, BWa ca vb f] [.ref sb, .int (nI d)]) (va_Qr (fun a9 : Nat => a9 = sb) (fun u a t => a = u ∧ MB D ca (va_A [BWo sb vb cnt, BWa ca vb f] sz) (fun _ : Nat => [BWo sb vb (cnt + 1), BWa ca vb (upd f cnt (vp_nar .byte (digF d)))]) u t) (va_A [BWo sb vb cnt, BWa ca vb f] sz)) 0 0 (va_A [BWo sb vb cnt, BWa ca vb f] sz) := by
  refine Met.ofW (cc := cJ5_append_c97b9) (maxL := 4) (ret := (some (.object "java/lang/AbstractStringBuilder"))) (by decide) rfl ?_
  intro p e s m args below meth c s₁ B hml hv
  obtain ⟨rfl, hsz, hP, hK, hD0, hY⟩ := hv
  have hx := B.exec
  have hb := B.bytes
  have hr := B.returns
  have hts := atoms_spec (ws := wsJ5_append_c97b9) B.pre
  have hown : s.vm.findClass RJ5 = some m.cls := findClass_of_methodNamed B.named
  have hlocks := B.notSynchronized
  subst hsz
  have hD := hD0.self (sz := s.heap.size)
  generalize hAe : va_A [BWo sb vb cnt, BWa ca vb f] s.heap.size = A at hD hY ⊢
  have hA : ∀ q : Nat, s.heap.size ≤ q → A q := fun q h => by rw [← hAe]; exact Or.inr h
  have hS : va_S A s.heap s.heap [] := va_S.rf
  have hin4 : ∀ w ∈ wsJ40, w ∈ wsJ5_append_c97b9 := by decide +kernel
  refine W_entry (Nat.le_of_ble_eq_true rfl) (fun ls hl => ?_)
  have hl : lv_has ls 4 [(0, .ref sb), (1, .int (nI d))] := hl
  refine lv_aload_n hx hb dJ5_append_c97b9_0 rfl (lv_at hl 0 rfl) ?_
  refine va_get (D := D) (ci := 1) (v := .int (nI cnt)) (C := RJ4) (T := TJ4) (N := 4) hx hb hts hin4 hown hK hP 0 rfl rfl 3 (by decide) (hts (.fieldLink RJ5 79 "java/lang/AbstractStringBuilder" "count" "I") (by decide +kernel)) (fun _ h9 => h9) rfl dJ5_append_c97b9_1 ?_
  refine lv_istore_n (lv' := [(2, .int (nI cnt)), (0, .ref sb), (1, .int (nI d))]) hx hb dJ5_append_c97b9_4 rfl hl (by decide) rfl (fun ls hl => ?_)
  refine lv_iload_n hx hb dJ5_append_c97b9_5 rfl (lv_at hl 0 rfl) ?_
  refine lv_iload_n hx hb dJ5_append_c97b9_6 rfl (lv_at hl 2 rfl) ?_
  refine hcSi (v := 1) (As := [.int (nI d)]) (rest := [.int (nI cnt)]) ⟨hx, hb, hml, hown, hts⟩ (kJ6_stringSize_0f7a4 l d hd) (va_cwS 1 hts gJ5_append_c97b9_J6_stringSize_0f7a4 rfl rfl rfl (by decide +kernel) ⟨Nat.le_of_ble_eq_true rfl, Nat.le_of_ble_eq_true rfl⟩) rfl hl.1 rfl (Nat.le_of_ble_eq_true rfl) ⟨Nat.zero_le _, Nat.zero_le _⟩ dJ5_append_c97b9_7 ?_
  refine lv_iadd hx hb dJ5_append_c97b9_10 ?_
  refine lv_to (y := nI (cnt + 1)) (nI_1 cnt) ?_
  refine lv_istore_n (lv' := [(3, .int (nI (cnt + 1))), (2, .int (nI cnt)), (0, .ref sb), (1, .int (nI d))]) hx hb dJ5_append_c97b9_11 rfl hl (by decide) rfl (fun ls hl => ?_)
  refine lv_aload_n hx hb dJ5_append_c97b9_12 rfl (lv_at hl 2 rfl) ?_
  refine lv_iload_n hx hb dJ5_append_c97b9_13 rfl (lv_at hl 0 rfl) ?_
  refine rowV (wr := []) (wc := [BWo sb vb cnt, BWa ca vb f]) (f := fun _ : Unit => [BWo sb vb cnt, BWa ca vb f]) (va_runU (As := [.int (nI (cnt + 1))]) (rest := []) ⟨hx, hb, hml, hown, hts⟩ (kJ5_ensureCapacityInternal_d00df l D ca en ks vs lk lv _ sb vb cnt (cnt + 1) f (by omega)) (va_cwU 1 hts gJ5_append_c97b9_J5_ensureCapacityInternal_d00df_u100J4 rfl rfl rfl rfl (by decide +kernel) ⟨Nat.le_of_ble_eq_true rfl, Nat.le_of_ble_eq_true rfl⟩) (MGv (wr := []) (q0 := 0) (ci := 1) (YX_ok en ks vs lk lv) hK hP hD hS hA hY (List.Perm.refl _) rfl rfl) rfl rfl hl.1 rfl (lv_room (Nat.le_of_ble_eq_true rfl)) dJ5_append_c97b9_14 ⟨Nat.le_of_ble_eq_true rfl, Nat.le_of_ble_eq_true rfl⟩) hP hD hS hA (List.Perm.refl _) (fun _ H locs _ hP hD hS => ?_)
  refine lv_aload_n hx hb dJ5_append_c97b9_17 rfl (lv_at hl 2 rfl) ?_
  refine rowI (wr := []) (wc := [BWo sb vb cnt, BWa ca vb f]) (f := fun _ : Unit => [BWo sb vb cnt, BWa ca vb f]) (va_runU (As := []) (rest := []) ⟨hx, hb, hml, hown, hts⟩ (kJ5_isLatin1_aae02 l D ca en ks vs lk lv _ sb vb cnt f) (va_cwU 0 hts gJ5_append_c97b9_J5_isLatin1_aae02_u83J4 rfl rfl rfl rfl (by decide +kernel) ⟨Nat.le_of_ble_eq_true rfl, Nat.le_of_ble_eq_true rfl⟩) (MGv (wr := []) (q0 := 0) (ci := 1) (YX_ok en ks vs lk lv) hK hP hD hS hA hY (List.Perm.refl _) rfl rfl) rfl rfl hl.1 rfl (lv_room (Nat.le_of_ble_eq_true rfl)) dJ5_append_c97b9_18 ⟨Nat.le_of_ble_eq_true rfl, Nat.le_of_ble_eq_true rfl⟩) hP hD hS hA (List.Perm.refl _) (fun r9 _ H locs hr9 hP hD hS => ?_)
  subst hr9
  refine lv_if_eq (tgt := 37) hx hb dJ5_append_c97b9_21 (by decide) (fun q => absurd q (by decide)) (fun _ => ?_)
  refine lv_iload_n hx hb dJ5_append_c97b9_24 rfl (lv_at hl 3 rfl) ?_
  refine lv_iload_n hx hb dJ5_append_c97b9_25 rfl (lv_at hl 0 rfl) ?_
  refine lv_aload_n hx hb dJ5_append_c97b9_26 rfl (lv_at hl 2 rfl) ?_
  refine va_get (D := D) (ci := 1) (v := .ref vb) (C := RJ4) (T := TJ4) (N := 4) hx hb hts hin4 hown hK hP 0 rfl rfl 0 (by decide) (hts (.fieldLink RJ5 15 "java/lang/AbstractStringBuilder" "value" "[B") (by decide +kernel)) (fun _ h9 => h9) rfl dJ5_append_c97b9_27 ?_
  refine rowI (wr := [BWo sb vb cnt]) (wc := [BWa ca vb f]) (f := fun _ : Unit => [BWa ca vb (upd f cnt (vp_nar .byte (digF d)))]) (va_runS (As := [.int (nI d), .int (nI (cnt + 1)), .ref vb]) (rest := []) ⟨hx, hb, hml, hown, hts⟩ (kJ6_getChars_ba4f3 l D ca en ks vs lk lv _ vb f d cnt hd (by omega)) (va_cwS 3 hts gJ5_append_c97b9_J6_getChars_ba4f3 rfl rfl rfl (by decide +kernel) ⟨Nat.le_of_ble_eq_true rfl, Nat.le_of_ble_eq_true rfl⟩) (MGp (wr := [BWo sb vb cnt]) (YX_ok en ks vs lk lv) hK hP hD hS hA hY (List.Perm.refl _)) rfl rfl hl.1 rfl (lv_room (Nat.le_of_ble_eq_true rfl)) dJ5_append_c97b9_30 ⟨Nat.le_of_ble_eq_true rfl, Nat.le_of_ble_eq_true rfl⟩) hP hD hS hA (List.Perm.refl _) (fun _ _ H locs _ hP hD hS => ?_)
  refine lv_pop hx hb dJ5_append_c97b9_33 rfl ?_
  refine lv_goto (tgt := 48) hx hb dJ5_append_c97b9_34 (by decide) ?_
  refine lv_aload_n hx hb dJ5_append_c97b9_48 rfl (lv_at hl 2 rfl) ?_
  refine lv_iload_n hx hb dJ5_append_c97b9_49 rfl (lv_at hl 0 rfl) ?_
  refine va_put (D := D) (ci := 1) (v := .int (nI (cnt + 1))) (ty := .int) (C := RJ4) (T := TJ4) (N := 4) hx hb hts hin4 tyJ4 tyJ4_ok nmJ4 hown hK hP hD hS 0 rfl rfl 3 (by decide) (hts (.fieldLink RJ5 79 "java/lang/AbstractStringBuilder" "count" "I") (by decide +kernel)) (fun _ h9 => h9) rfl rfl rfl rfl (Nat.le_of_ble_eq_true rfl) dJ5_append_c97b9_50 (fun H locs hP hD hS => ?_)
  refine lv_aload_n hx hb dJ5_append_c97b9_53 rfl (lv_at hl 2 rfl) ?_
  exact W.aret (v := .ref sb) hx hb hr (Or.inl ⟨_, rfl⟩) (Or.inr ⟨_, rfl⟩) (fun t ht hW => ⟨⟨sb, sb, rfl, rfl, rfl, by rw [ht]; exact hP, va_K.moved hW.alike hK, hD⟩, hS.F ht⟩) hS.2.2 dJ5_append_c97b9_54
set_option maxHeartbeats 4000000 in
set_option maxRecDepth 100000 in
theorem kJ4_append_bf812 (l : Launch) (D : va_G) (ca : Nat → ClassId) (en ks vs lk lv : Nat → Nat) (sz : Nat) (sb vb cnt : Nat) (f : Nat → Int32) (d : Nat) (hd : d < 10) (hc : cnt < 16) : Met l yJ4_append_bf812 wsJ4_append_bf812 ({ frames := 2, cells := 0, slots := 0, locals := 49 }) (MGPc D ca (YX en ks vs lk lv) sz [BWo sb vb cnt, BWa ca vb f] [.ref sb, .int (nI d)]) (va_Qr (fun a9 : Nat => a9 = sb) (fun u a t => a = u ∧ MB D ca (va_A [BWo sb vb cnt, BWa ca vb f] sz) (fun _ : Nat => [BWo sb vb (cnt + 1), BWa ca vb (upd f cnt (vp_nar .byte (digF d)))]) u t) (va_A [BWo sb vb cnt, BWa ca vb f] sz)) 0 0 (va_A [BWo sb vb cnt, BWa ca vb f] sz) := by
  refine Met.ofW (cc := cJ4_append_bf812) (maxL := 2) (ret := (some (.object "java/lang/StringBuilder"))) (by decide) rfl ?_
  intro p e s m args below meth c s₁ B hml hv
  obtain ⟨rfl, hsz, hP, hK, hD0, hY⟩ := hv
  have hx := B.exec
  have hb := B.bytes
  have hr := B.returns
  have hts := atoms_spec (ws := wsJ4_append_bf812) B.pre
  have hown : s.vm.findClass RJ4 = some m.cls := findClass_of_methodNamed B.named
  have hlocks := B.notSynchronized
  subst hsz
  have hD := hD0.self (sz := s.heap.size)
  generalize hAe : va_A [BWo sb vb cnt, BWa ca vb f] s.heap.size = A at hD hY ⊢
  have hA : ∀ q : Nat, s.heap.size ≤ q → A q := fun q h => by rw [← hAe]; exact Or.inr h
  have hS : va_S A s.heap s.heap [] := va_S.rf
  have hin4 : ∀ w ∈ wsJ40, w ∈ wsJ4_append_bf812 := by decide +kernel
  refine W_entry (Nat.le_of_ble_eq_true rfl) (fun ls hl => ?_)
  have hl : lv_has ls 2 [(0, .ref sb), (1, .int (nI d))] := hl
  refine lv_aload_n hx hb dJ4_append_bf812_0 rfl (lv_at hl 0 rfl) ?_
  refine lv_iload_n hx hb dJ4_append_bf812_1 rfl (lv_at hl 1 rfl) ?_
  refine rowA (wr := []) (wc := [BWo sb vb cnt, BWa ca vb f]) (w9 := [BWo sb vb (cnt + 1), BWa ca vb (upd f cnt (vp_nar .byte (digF d)))]) (va_runSU (hK.1 1 _ rfl).2 (As := [.int (nI d)]) (rest := []) ⟨hx, hb, hml, hown, hts⟩ (kJ5_append_c97b9 l D ca en ks vs lk lv _ sb vb cnt f d hd hc) (va_cwSU 1 hts gJ4_append_bf812_J5_append_c97b9_s53 rfl rfl rfl (by decide +kernel) ⟨Nat.le_of_ble_eq_true rfl, Nat.le_of_ble_eq_true rfl⟩) (MGv (wr := []) (q0 := 0) (ci := 1) (YX_ok en ks vs lk lv) hK hP hD hS hA hY (List.Perm.refl _) rfl rfl) rfl rfl hl.1 rfl (lv_room (Nat.le_of_ble_eq_true rfl)) dJ4_append_bf812_2 ⟨Nat.le_of_ble_eq_true rfl, Nat.le_of_ble_eq_true rfl⟩) hP hD hS hA (List.Perm.refl _) (fun H locs hP hD hS => ?_)
  refine lv_pop hx hb dJ4_append_bf812_5 rfl ?_
  refine lv_aload_n hx hb dJ4_append_bf812_6 rfl (lv_at hl 0 rfl) ?_
  exact W.aret (v := .ref sb) hx hb hr (Or.inl ⟨_, rfl⟩) (Or.inr ⟨_, rfl⟩) (fun t ht hW => ⟨⟨sb, sb, rfl, rfl, rfl, by rw [ht]; exact hP, va_K.moved hW.alike hK, hD⟩, hS.F ht⟩) hS.2.2 dJ4_append_bf812_7
set_option maxHeartbeats 4000000 in
set_option maxRecDepth 100000 in
theorem kJ5_getValue_6d5f1 (l : Launch) (D : va_G) (ca : Nat → ClassId) (en ks vs lk lv : Nat → Nat) (sz : Nat) (sb vb cnt : Nat) (f : Nat → Int32) : Met l yJ5_getValue_6d5f1 wsJ5_getValue_6d5f1 ({ frames := 0, cells := 0, slots := 0, locals := 0 }) (MGPc D ca (YX en ks vs lk lv) sz [BWo sb vb cnt, BWa ca vb f] [.ref sb]) (va_Qr (fun a9 : Nat => a9 = vb) (fun u a t => a = u ∧ MB D ca (va_A [BWo sb vb cnt, BWa ca vb f] sz) (fun _ : Nat => [BWo sb vb cnt, BWa ca vb f]) u t) (va_A [BWo sb vb cnt, BWa ca vb f] sz)) 0 0 (va_A [BWo sb vb cnt, BWa ca vb f] sz) := by
  refine Met.ofW (cc := cJ5_getValue_6d5f1) (maxL := 1) (ret := (some (.array .byte))) (by decide) rfl ?_
  intro p e s m args below meth c s₁ B hml hv
  obtain ⟨rfl, hsz, hP, hK, hD0, hY⟩ := hv
  have hx := B.exec
  have hb := B.bytes
  have hr := B.returns
  have hts := atoms_spec (ws := wsJ5_getValue_6d5f1) B.pre
  have hown : s.vm.findClass RJ5 = some m.cls := findClass_of_methodNamed B.named
  have hlocks := B.notSynchronized
  subst hsz
  have hD := hD0.self (sz := s.heap.size)
  generalize hAe : va_A [BWo sb vb cnt, BWa ca vb f] s.heap.size = A at hD hY ⊢
  have hA : ∀ q : Nat, s.heap.size ≤ q → A q := fun q h => by rw [← hAe]; exact Or.inr h
  have hS : va_S A s.heap s.heap [] := va_S.rf
  have hin4 : ∀ w ∈ wsJ40, w ∈ wsJ5_getValue_6d5f1 := by decide +kernel
  refine W_entry (Nat.le_of_ble_eq_true rfl) (fun ls hl => ?_)
  have hl : lv_has ls 1 [(0, .ref sb)] := hl
  refine lv_aload_n hx hb dJ5_getValue_6d5f1_0 rfl (lv_at hl 0 rfl) ?_
  refine va_get (D := D) (ci := 1) (v := .ref vb) (C := RJ4) (T := TJ4) (N := 4) hx hb hts hin4 hown hK hP 0 rfl rfl 0 (by decide) (hts (.fieldLink RJ5 15 "java/lang/AbstractStringBuilder" "value" "[B") (by decide +kernel)) (fun _ h9 => h9) rfl dJ5_getValue_6d5f1_1 ?_
  exact W.aret (v := .ref vb) hx hb hr (Or.inr ⟨_, rfl⟩) (Or.inr ⟨_, rfl⟩) (fun t ht hW => ⟨⟨vb, vb, rfl, rfl, rfl, by rw [ht]; exact hP, va_K.moved hW.alike hK, hD⟩, hS.F ht⟩) hS.2.2 dJ5_getValue_6d5f1_4
set_option maxHeartbeats 4000000 in
set_option maxRecDepth 100000 in
theorem kJ5_length_8abf5 (l : Launch) (D : va_G) (ca : Nat → ClassId) (en ks vs lk lv : Nat → Nat) (sz : Nat) (sb vb cnt : Nat) (f : Nat → Int32) : Met l yJ5_length_8abf5 wsJ5_length_8abf5 ({ frames := 0, cells := 0, slots := 0, locals := 0 }) (MGPc D ca (YX en ks vs lk lv) sz [BWo sb vb cnt, BWa ca vb f] [.ref sb]) (va_Qi (fun r (_ : Unit) => r = nI cnt) (MB D ca (va_A [BWo sb vb cnt, BWa ca vb f] sz) (fun _ : Unit => [BWo sb vb cnt, BWa ca vb f])) (va_A [BWo sb vb cnt, BWa ca vb f] sz)) 0 0 (va_A [BWo sb vb cnt, BWa ca vb f] sz) := by
  refine Met.ofW (cc := cJ5_length_8abf5) (maxL := 1) (ret := (some .int)) (by decide) rfl ?_
  intro p e s m args below meth c s₁ B hml hv
  obtain ⟨rfl, hsz, hP, hK, hD0, hY⟩ := hv
  have hx := B.exec
  have hb := B.bytes
  have hr := B.returns
  have hts := atoms_spec (ws := wsJ5_length_8abf5) B.pre
  have hown : s.vm.findClass RJ5 = some m.cls := findClass_of_methodNamed B.named
  have hlocks := B.notSynchronized
  subst hsz
  have hD := hD0.self (sz := s.heap.size)
  generalize hAe : va_A [BWo sb vb cnt, BWa ca vb f] s.heap.size = A at hD hY ⊢
  have hA : ∀ q : Nat, s.heap.size ≤ q → A q := fun q h => by rw [← hAe]; exact Or.inr h
  have hS : va_S A s.heap s.heap [] := va_S.rf
  have hin4 : ∀ w ∈ wsJ40, w ∈ wsJ5_length_8abf5 := by decide +kernel
  refine W_entry (Nat.le_of_ble_eq_true rfl) (fun ls hl => ?_)
  have hl : lv_has ls 1 [(0, .ref sb)] := hl
  refine lv_aload_n hx hb dJ5_length_8abf5_0 rfl (lv_at hl 0 rfl) ?_
  refine va_get (D := D) (ci := 1) (v := .int (nI cnt)) (C := RJ4) (T := TJ4) (N := 4) hx hb hts hin4 hown hK hP 0 rfl rfl 3 (by decide) (hts (.fieldLink RJ5 79 "java/lang/AbstractStringBuilder" "count" "I") (by decide +kernel)) (fun _ h9 => h9) rfl dJ5_length_8abf5_1 ?_
  exact W.iret hx hb hr (fun t ht hW => ⟨⟨_, (), rfl, rfl, by rw [ht]; exact hP, va_K.moved hW.alike hK, hD⟩, hS.F ht⟩) hS.2.2 dJ5_length_8abf5_4
set_option maxHeartbeats 4000000 in
set_option maxRecDepth 100000 in
theorem kJ4_length_8abf5 (l : Launch) (D : va_G) (ca : Nat → ClassId) (en ks vs lk lv : Nat → Nat) (sz : Nat) (sb vb cnt : Nat) (f : Nat → Int32) : Met l yJ4_length_8abf5 wsJ4_length_8abf5 ({ frames := 1, cells := 0, slots := 0, locals := 20 }) (MGPc D ca (YX en ks vs lk lv) sz [BWo sb vb cnt, BWa ca vb f] [.ref sb]) (va_Qi (fun r (_ : Unit) => r = nI cnt) (MB D ca (va_A [BWo sb vb cnt, BWa ca vb f] sz) (fun _ : Unit => [BWo sb vb cnt, BWa ca vb f])) (va_A [BWo sb vb cnt, BWa ca vb f] sz)) 0 0 (va_A [BWo sb vb cnt, BWa ca vb f] sz) := by
  refine Met.ofW (cc := cJ4_length_8abf5) (maxL := 1) (ret := (some .int)) (by decide) rfl ?_
  intro p e s m args below meth c s₁ B hml hv
  obtain ⟨rfl, hsz, hP, hK, hD0, hY⟩ := hv
  have hx := B.exec
  have hb := B.bytes
  have hr := B.returns
  have hts := atoms_spec (ws := wsJ4_length_8abf5) B.pre
  have hown : s.vm.findClass RJ4 = some m.cls := findClass_of_methodNamed B.named
  have hlocks := B.notSynchronized
  subst hsz
  have hD := hD0.self (sz := s.heap.size)
  generalize hAe : va_A [BWo sb vb cnt, BWa ca vb f] s.heap.size = A at hD hY ⊢
  have hA : ∀ q : Nat, s.heap.size ≤ q → A q := fun q h => by rw [← hAe]; exact Or.inr h
  have hS : va_S A s.heap s.heap [] := va_S.rf
  have hin4 : ∀ w ∈ wsJ40, w ∈ wsJ4_length_8abf5 := by decide +kernel
  refine W_entry (Nat.le_of_ble_eq_true rfl) (fun ls hl => ?_)
  have hl : lv_has ls 1 [(0, .ref sb)] := hl
  refine lv_aload_n hx hb dJ4_length_8abf5_0 rfl (lv_at hl 0 rfl) ?_
  refine rowI (wr := []) (wc := [BWo sb vb cnt, BWa ca vb f]) (f := fun _ : Unit => [BWo sb vb cnt, BWa ca vb f]) (va_runSU (hK.1 1 _ rfl).2 (As := []) (rest := []) ⟨hx, hb, hml, hown, hts⟩ (kJ5_length_8abf5 l D ca en ks vs lk lv _ sb vb cnt f) (va_cwSU 0 hts gJ4_length_8abf5_J5_length_8abf5_s343 rfl rfl rfl (by decide +kernel) ⟨Nat.le_of_ble_eq_true rfl, Nat.le_of_ble_eq_true rfl⟩) (MGv (wr := []) (q0 := 0) (ci := 1) (YX_ok en ks vs lk lv) hK hP hD hS hA hY (List.Perm.refl _) rfl rfl) rfl rfl hl.1 rfl (lv_room (Nat.le_of_ble_eq_true rfl)) dJ4_length_8abf5_1 ⟨Nat.le_of_ble_eq_true rfl, Nat.le_of_ble_eq_true rfl⟩) hP hD hS hA (List.Perm.refl _) (fun r9 _ H locs hr9 hP hD hS => ?_)
  subst hr9
  exact W.iret hx hb hr (fun t ht hW => ⟨⟨_, (), rfl, rfl, by rw [ht]; exact hP, va_K.moved hW.alike hK, hD⟩, hS.F ht⟩) hS.2.2 dJ4_length_8abf5_4
set_option maxHeartbeats 4000000 in
set_option maxRecDepth 100000 in
theorem kJ7_checkLength_df160 (l : Launch) (D : va_G) (ca : Nat → ClassId) (en ks vs lk lv : Nat → Nat) (sz : Nat) (vb n : Nat) (f : Nat → Int32) (hn : n ≤ 16) : Met l yJ7_checkLength_df160 wsJ7_checkLength_df160 ({ frames := 0, cells := 0, slots := 0, locals := 0 }) (MGPc D ca (YX en ks vs lk lv) sz [BWa ca vb f] [.int 0, .int (nI n)]) (va_Qv (fun _ : Unit => True) (MB D ca (va_A [BWa ca vb f] sz) (fun _ : Unit => [BWa ca vb f])) (va_A [BWa ca vb f] sz)) 0 0 (va_A [BWa ca vb f] sz) := by
  refine Met.ofW (cc := cJ7_checkLength_df160) (maxL := 2) (ret := none) (by decide) rfl ?_
  intro p e s m args below meth c s₁ B hml hv
  obtain ⟨rfl, hsz, hP, hK, hD0, hY⟩ := hv
  have hx := B.exec
  have hb := B.bytes
  have hr := B.returns
  have hts := atoms_spec (ws := wsJ7_checkLength_df160) B.pre
  have hown : s.vm.findClass RJ7 = some m.cls := findClass_of_methodNamed B.named
  have hlocks := B.notSynchronized
  subst hsz
  have hD := hD0.self (sz := s.heap.size)
  generalize hAe : va_A [BWa ca vb f] s.heap.size = A at hD hY ⊢
  have hA : ∀ q : Nat, s.heap.size ≤ q → A q := fun q h => by rw [← hAe]; exact Or.inr h
  have hS : va_S A s.heap s.heap [] := va_S.rf
  refine W_entry (Nat.le_of_ble_eq_true rfl) (fun ls hl => ?_)
  have hl : lv_has ls 2 [(0, .int 0), (1, .int (nI n))] := hl
  obtain ⟨u1, u2, u3⟩ := sub_tab n (by omega)
  refine lv_iload_n hx hb dJ7_checkLength_df160_0 rfl (lv_at hl 1 rfl) ?_
  refine lv_iload_n hx hb dJ7_checkLength_df160_1 rfl (lv_at hl 0 rfl) ?_
  refine lv_icmp_ge (tgt := 37) hx hb dJ7_checkLength_df160_2 (by decide) (fun _ => ?_) (fun q => absurd u3 q)
  exact W.vret hx hb hr (fun t ht hW => ⟨⟨(), rfl, trivial, by rw [ht]; exact hP, va_K.moved hW.alike hK, hD⟩, hS.F ht⟩) hS.2.2 dJ7_checkLength_df160_37
set_option maxHeartbeats 4000000 in
set_option maxRecDepth 100000 in
theorem kJ7_copyOfRangeByte_39247 (l : Launch) (D : va_G) (ca : Nat → ClassId) (en ks vs lk lv : Nat → Nat) (sz : Nat) (vb n : Nat) (f : Nat → Int32) (hn : n ≤ 16) (hf : FB f) : Met l yJ7_copyOfRangeByte_39247 wsJ7_copyOfRangeByte_39247 ({ frames := 1, cells := 1, slots := 16, locals := 30 }) (MGPc D ca (YX en ks vs lk lv) sz [BWa ca vb f] [.ref vb, .int 0, .int (nI n)]) (va_Qr (fun g : Nat → Int32 => ∀ j, j < n → g j = f j) (fun u a t => MB D ca (va_A [BWa ca vb f] sz) (fun g => [BWa ca vb f, (a, .inl (ca 5, n, .inl g))]) u t) (va_A [BWa ca vb f] sz)) 1 16 (va_A [BWa ca vb f] sz) := by
  refine Met.ofW (cc := cJ7_copyOfRangeByte_39247) (maxL := 5) (ret := (some (.array .byte))) (by decide) rfl ?_
  intro p e s m args below meth c s₁ B hml hv
  obtain ⟨rfl, hsz, hP, hK, hD0, hY⟩ := hv
  have hx := B.exec
  have hb := B.bytes
  have hr := B.returns
  have hts := atoms_spec (ws := wsJ7_copyOfRangeByte_39247) B.pre
  have hown : s.vm.findClass RJ7 = some m.cls := findClass_of_methodNamed B.named
  have hlocks := B.notSynchronized
  subst hsz
  have hD := hD0.self (sz := s.heap.size)
  generalize hAe : va_A [BWa ca vb f] s.heap.size = A at hD hY ⊢
  have hA : ∀ q : Nat, s.heap.size ≤ q → A q := fun q h => by rw [← hAe]; exact Or.inr h
  have hS : va_S A s.heap s.heap [] := va_S.rf
  refine W_entry (Nat.le_of_ble_eq_true rfl) (fun ls hl => ?_)
  have hl : lv_has ls 5 [(0, .ref vb), (1, .int 0), (2, .int (nI n))] := hl
  obtain ⟨u1, u2, u3⟩ := sub_tab n (by omega)
  refine lv_iload_n hx hb dJ7_copyOfRangeByte_39247_0 rfl (lv_at hl 1 rfl) ?_
  refine lv_iload_n hx hb dJ7_copyOfRangeByte_39247_1 rfl (lv_at hl 2 rfl) ?_
  refine rowV (wr := []) (wc := [BWa ca vb f]) (f := fun _ : Unit => [BWa ca vb f]) (va_runS (As := [.int 0, .int (nI n)]) (rest := []) ⟨hx, hb, hml, hown, hts⟩ (kJ7_checkLength_df160 l D ca en ks vs lk lv _ vb n f hn) (va_cwS 2 hts gJ7_copyOfRangeByte_39247_J7_checkLength_df160 rfl rfl rfl (by decide +kernel) ⟨Nat.le_of_ble_eq_true rfl, Nat.le_of_ble_eq_true rfl⟩) (MGp (wr := []) (YX_ok en ks vs lk lv) hK hP hD hS hA hY (List.Perm.refl _)) rfl rfl hl.1 rfl (lv_room (Nat.le_of_ble_eq_true rfl)) dJ7_copyOfRangeByte_39247_2 ⟨Nat.le_of_ble_eq_true rfl, Nat.le_of_ble_eq_true rfl⟩) hP hD hS hA (List.Perm.refl _) (fun _ H locs _ hP hD hS => ?_)
  refine lv_iload_n hx hb dJ7_copyOfRangeByte_39247_5 rfl (lv_at hl 2 rfl) ?_
  refine lv_iload_n hx hb dJ7_copyOfRangeByte_39247_6 rfl (lv_at hl 1 rfl) ?_
  refine lv_isub hx hb dJ7_copyOfRangeByte_39247_7 ?_
  refine lv_to (y := nI n) u1 ?_
  refine lv_istore_n (lv' := [(3, .int (nI n)), (0, .ref vb), (1, .int 0), (2, .int (nI n))]) hx hb dJ7_copyOfRangeByte_39247_8 rfl hl (by decide) rfl (fun ls hl => ?_)
  refine lv_iload_n hx hb dJ7_copyOfRangeByte_39247_9 rfl (lv_at hl 0 rfl) ?_
  have e1 : (nI n).toNatClampNeg = n := nI_clamp (by omega)
  refine newb n hx hb (hts (.arrayClass .byte) (by decide +kernel)) hK hP hD hS hA (nI_pos (by omega)) e1 (by show n * 1 ≤ 536870912; omega) (Nat.le_of_ble_eq_true rfl) (by show 0 + n ≤ 16; omega) dJ7_copyOfRangeByte_39247_10 (fun q H hP hD hS => ?_)
  refine W.widen (k := 1) (n := 16) (by omega) (by omega) ?_
  refine lv_astore (lv' := [(4, .ref q), (3, .int (nI n)), (0, .ref vb), (1, .int 0), (2, .int (nI n))]) hx hb dJ7_copyOfRangeByte_39247_12 hl (by decide) rfl (fun ls hl => ?_)
  refine lv_aload_n hx hb dJ7_copyOfRangeByte_39247_14 rfl (lv_at hl 2 rfl) ?_
  refine lv_iload_n hx hb dJ7_copyOfRangeByte_39247_15 rfl (lv_at hl 3 rfl) ?_
  refine lv_aload hx hb dJ7_copyOfRangeByte_39247_16 (lv_at hl 0 rfl) ?_
  refine lv_iconst (v := 0) hx hb dJ7_copyOfRangeByte_39247_18 (by decide) ?_
  refine lv_aload_n hx hb dJ7_copyOfRangeByte_39247_19 rfl (lv_at hl 2 rfl) ?_
  refine va_alen (v := 16) hx hb hK hP 0 5 rfl rfl rfl dJ7_copyOfRangeByte_39247_20 ?_
  refine lv_iload_n hx hb dJ7_copyOfRangeByte_39247_21 rfl (lv_at hl 3 rfl) ?_
  refine lv_isub hx hb dJ7_copyOfRangeByte_39247_22 ?_
  refine lv_to (y := 16) (by decide) ?_
  refine lv_iload_n hx hb dJ7_copyOfRangeByte_39247_23 rfl (lv_at hl 1 rfl) ?_
  refine va_mmin hx hb (hml.trans hl.1.symm) hown (hts (.methodLink RJ7 304 Lib.Math.min.name) (by decide +kernel)) (hts (.static Lib.Math.min.name) (by decide +kernel)) (hts (.initialized "java/lang/Math") (by decide +kernel)) (hts (.code Lib.Math.min.name Lib.Math.min.code 2 (some .int)) (by decide +kernel)) (Nat.le_of_ble_eq_true rfl) (Nat.le_of_ble_eq_true rfl) (Nat.le_of_ble_eq_true rfl) (Nat.le_of_ble_eq_true rfl) dJ7_copyOfRangeByte_39247_24 ?_
  refine lv_to (y := nI n) u2 ?_
  refine va_copyi hx hb (hml.trans hl.1.symm) hown (hts (.methodLink RJ7 150 arraycopyName) (by decide +kernel)) (hts (.native arraycopyName) (by decide +kernel)) (hts (.static arraycopyName) (by decide +kernel)) (hts (.initialized "java/lang/System") (by decide +kernel)) hK hP hD hS 0 1 5 5 rfl rfl rfl rfl rfl (by decide) (by decide) (nI_pos (by omega)) (by rw [e1]; show 0 + n ≤ 16; omega) (by rw [e1]; exact Nat.le_of_eq (Nat.zero_add _)) (fun j hj => hf _) (Nat.le_of_ble_eq_true rfl) (Nat.le_of_ble_eq_true rfl) dJ7_copyOfRangeByte_39247_27 (fun H locs hP hD hS => ?_)
  have hP : va_P D vwCl [BWa ca vb f, (q, .inl (ca 5, n, .inl (va_cpy f (fun _ => 0) 0 0 n)))] H := by
    have h := hP
    rw [e1] at h
    exact h
  have hD : va_D A [BWa ca vb f, (q, .inl (ca 5, n, .inl (va_cpy f (fun _ => 0) 0 0 n)))] := by
    have h := hD
    rw [e1] at h
    exact h
  refine lv_aload hx hb dJ7_copyOfRangeByte_39247_30 (lv_at hl 0 rfl) ?_
  have hg : ∀ j, j < n → (va_cpy f (fun _ => 0) 0 0 n) j = f j := fun j hj => by
    unfold va_cpy
    rw [if_pos ⟨Nat.zero_le _, by omega⟩]
    show f (0 + (j - 0)) = f j
    rw [Nat.zero_add, Nat.sub_zero]
  exact W.aret (v := .ref q) hx hb hr (Or.inr ⟨_, rfl⟩) (Or.inr ⟨_, rfl⟩) (fun t ht hW => ⟨⟨(va_cpy f (fun _ => 0) 0 0 n), q, rfl, hg, by rw [ht]; exact hP, va_K.moved hW.alike hK, hD⟩, hS.F ht⟩) hS.2.2 dJ7_copyOfRangeByte_39247_32
set_option maxHeartbeats 4000000 in
set_option maxRecDepth 100000 in
theorem kJ7_copyOfRange_39247 (l : Launch) (D : va_G) (ca : Nat → ClassId) (en ks vs lk lv : Nat → Nat) (sz : Nat) (vb n : Nat) (f : Nat → Int32) (hn : n ≤ 16) (hf : FB f) : Met l yJ7_copyOfRange_39247 wsJ7_copyOfRange_39247 ({ frames := 2, cells := 1, slots := 16, locals := 54 }) (MGPc D ca (YX en ks vs lk lv) sz [BWa ca vb f] [.ref vb, .int 0, .int (nI n)]) (va_Qr (fun g : Nat → Int32 => ∀ j, j < n → g j = f j) (fun u a t => MB D ca (va_A [BWa ca vb f] sz) (fun g => [BWa ca vb f, (a, .inl (ca 5, n, .inl g))]) u t) (va_A [BWa ca vb f] sz)) 1 16 (va_A [BWa ca vb f] sz) := by
  refine Met.ofW (cc := cJ7_copyOfRange_39247) (maxL := 3) (ret := (some (.array .byte))) (by decide) rfl ?_
  intro p e s m args below meth c s₁ B hml hv
  obtain ⟨rfl, hsz, hP, hK, hD0, hY⟩ := hv
  have hx := B.exec
  have hb := B.bytes
  have hr := B.returns
  have hts := atoms_spec (ws := wsJ7_copyOfRange_39247) B.pre
  have hown : s.vm.findClass RJ7 = some m.cls := findClass_of_methodNamed B.named
  have hlocks := B.notSynchronized
  subst hsz
  have hD := hD0.self (sz := s.heap.size)
  generalize hAe : va_A [BWa ca vb f] s.heap.size = A at hD hY ⊢
  have hA : ∀ q : Nat, s.heap.size ≤ q → A q := fun q h => by rw [← hAe]; exact Or.inr h
  have hS : va_S A s.heap s.heap [] := va_S.rf
  refine W_entry (Nat.le_of_ble_eq_true rfl) (fun ls hl => ?_)
  have hl : lv_has ls 3 [(0, .ref vb), (1, .int 0), (2, .int (nI n))] := hl
  refine lv_iload_n hx hb dJ7_copyOfRange_39247_0 rfl (lv_at hl 1 rfl) ?_
  refine lv_if_ne (tgt := 10) hx hb dJ7_copyOfRange_39247_1 (by decide) (fun q => absurd rfl q) (fun _ => ?_)
  refine lv_iload_n hx hb dJ7_copyOfRange_39247_4 rfl (lv_at hl 2 rfl) ?_
  refine lv_aload_n hx hb dJ7_copyOfRange_39247_5 rfl (lv_at hl 0 rfl) ?_
  refine va_alen (v := nI 16) hx hb hK hP 0 5 rfl rfl rfl dJ7_copyOfRange_39247_6 ?_
  refine icmpeqN (tgt := 17) hx hb dJ7_copyOfRange_39247_7 (by decide) (by omega) (by decide) (fun hq => ?_) (fun hq => ?_)
  · have hnm : s.vm.findClass "[B" = some (ca 5) := (hK.2 5 (ca 5, .byte) rfl).2
    subst hq
    refine lv_aload_n hx hb dJ7_copyOfRange_39247_17 rfl (lv_at hl 0 rfl) ?_
    refine va_clone hx hb (hml.trans hl.1.symm) hown (hts (.methodLink RJ7 310 ⟨"[B", "clone", "()Ljava/lang/Object;"⟩) (by decide +kernel)) (hts (.sameMethod "[B" "java/lang/Object" "clone" "()Ljava/lang/Object;") (by decide +kernel)) (hts (.native ⟨"java/lang/Object", "clone", "()Ljava/lang/Object;"⟩) (by decide +kernel)) (hts (.instanceMethod ⟨"java/lang/Object", "clone", "()Ljava/lang/Object;"⟩) (by decide +kernel)) (hts (.selects "[B" ⟨"[B", "clone", "()Ljava/lang/Object;"⟩ ⟨"java/lang/Object", "clone", "()Ljava/lang/Object;"⟩) (by decide +kernel)) hY.2.2.2 hK hP hD hS hA 0 5 rfl rfl hnm (fit_cell hf) (Nat.le_of_ble_eq_true rfl) (Nat.le_of_ble_eq_true rfl) (Nat.le_of_ble_eq_true rfl) (Nat.le_of_ble_eq_true rfl) dJ7_copyOfRange_39247_18 (fun q H _ hP hD hS => ?_)
    refine W.widen (k := 1) (n := 16) (Nat.le_of_ble_eq_true rfl) (Nat.le_of_ble_eq_true rfl) ?_
    refine va_castA hx hb hown (hts (.classLink RJ7 311 "[B") (by decide +kernel)) hP 1 rfl hnm dJ7_copyOfRange_39247_21 ?_
    exact W.aret (v := .ref q) hx hb hr (Or.inr ⟨_, rfl⟩) (Or.inr ⟨_, rfl⟩) (fun t ht hW => ⟨⟨f, q, rfl, fun _ _ => rfl, by rw [ht]; exact hP, va_K.moved hW.alike hK, hD⟩, hS.F ht⟩) hS.2.2 dJ7_copyOfRange_39247_24
  · have hnm : s.vm.findClass "[B" = some (ca 5) := (hK.2 5 (ca 5, .byte) rfl).2
    refine lv_aload_n hx hb dJ7_copyOfRange_39247_10 rfl (lv_at hl 0 rfl) ?_
    refine lv_iload_n hx hb dJ7_copyOfRange_39247_11 rfl (lv_at hl 1 rfl) ?_
    refine lv_iload_n hx hb dJ7_copyOfRange_39247_12 rfl (lv_at hl 2 rfl) ?_
    refine rowR (wr := []) (wc := [BWa ca vb f]) (BR := fun (g : Nat → Int32) (a : Nat) => [BWa ca vb f, (a, .inl (ca 5, n, .inl g))]) (va_runS (As := [.ref vb, .int 0, .int (nI n)]) (rest := []) ⟨hx, hb, hml, hown, hts⟩ (kJ7_copyOfRangeByte_39247 l D ca en ks vs lk lv _ vb n f hn hf) (va_cwS 3 hts gJ7_copyOfRange_39247_J7_copyOfRangeByte_39247 rfl rfl rfl (by decide +kernel) ⟨Nat.le_of_ble_eq_true rfl, Nat.le_of_ble_eq_true rfl⟩) (MGp (wr := []) (YX_ok en ks vs lk lv) hK hP hD hS hA hY (List.Perm.refl _)) rfl rfl hl.1 rfl (lv_room (Nat.le_of_ble_eq_true rfl)) dJ7_copyOfRange_39247_13 ⟨Nat.le_of_ble_eq_true rfl, Nat.le_of_ble_eq_true rfl⟩) hP hD hS hA (List.Perm.refl _) (fun g q H locs hg hP hD hS => ?_)
    refine W.widen (k := 1) (n := 16) (Nat.le_of_ble_eq_true rfl) (Nat.le_of_ble_eq_true rfl) ?_
    exact W.aret (v := .ref q) hx hb hr (Or.inr ⟨_, rfl⟩) (Or.inr ⟨_, rfl⟩) (fun t ht hW => ⟨⟨g, q, rfl, hg, by rw [ht]; exact hP, va_K.moved hW.alike hK, hD⟩, hS.F ht⟩) hS.2.2 dJ7_copyOfRange_39247_16
set_option maxHeartbeats 4000000 in
set_option maxRecDepth 100000 in
theorem kJ0_init_db425 (l : Launch) (D : va_G) (ca : Nat → ClassId) (en ks vs lk lv : Nat → Nat) (sz : Nat) (t sb vb cnt : Nat) (f : Nat → Int32) (hc : cnt ≤ 16) (hf : FB f) : Met l yJ0_init_db425 wsJ0_init_db425 ({ frames := 3, cells := 1, slots := 16, locals := 76 }) (MGPc D ca (YX en ks vs lk lv) sz [(t, .inr (0, [.null, .int 0, .int 0, .int 0])), BWo sb vb cnt, BWa ca vb f] [.ref t, .ref sb, .null]) (va_Qv (fun z : ((Nat → Int32) × Nat) => ∀ j, j < cnt → z.1 j = f j) (MB D ca (va_A [(t, .inr (0, [.null, .int 0, .int 0, .int 0])), BWo sb vb cnt, BWa ca vb f] sz) (fun z : ((Nat → Int32) × Nat) => [(t, .inr (0, [.ref z.2, .int 0, .int 0, .int 0])), BWo sb vb cnt, BWa ca vb f, (z.2, .inl (ca 5, cnt, .inl z.1))])) (va_A [(t, .inr (0, [.null, .int 0, .int 0, .int 0])), BWo sb vb cnt, BWa ca vb f] sz)) 1 16 (va_A [(t, .inr (0, [.null, .int 0, .int 0, .int 0])), BWo sb vb cnt, BWa ca vb f] sz) := by
  refine Met.ofW (cc := cJ0_init_db425) (maxL := 5) (ret := none) (by decide) rfl ?_
  intro p e s m args below meth c s₁ B hml hv
  obtain ⟨rfl, hsz, hP, hK, hD0, hY⟩ := hv
  have hx := B.exec
  have hb := B.bytes
  have hr := B.returns
  have hts := atoms_spec (ws := wsJ0_init_db425) B.pre
  have hown : s.vm.findClass RJ0 = some m.cls := findClass_of_methodNamed B.named
  have hlocks := B.notSynchronized
  subst hsz
  have hD := hD0.self (sz := s.heap.size)
  generalize hAe : va_A [(t, .inr (0, [.null, .int 0, .int 0, .int 0])), BWo sb vb cnt, BWa ca vb f] s.heap.size = A at hD hY ⊢
  have hA : ∀ q : Nat, s.heap.size ≤ q → A q := fun q h => by rw [← hAe]; exact Or.inr h
  have hS : va_S A s.heap s.heap [] := va_S.rf
  have hin4 : ∀ w ∈ wsJ40, w ∈ wsJ0_init_db425 := by decide +kernel
  have hin0 : ∀ w ∈ wsJ00, w ∈ wsJ0_init_db425 := by decide +kernel
  have hin : meth.name = "<init>" := (name_of_methodNamed B.named B.method).1
  refine W_entry (Nat.le_of_ble_eq_true rfl) (fun ls hl => ?_)
  have hl : lv_has ls 5 [(0, .ref t), (1, .ref sb), (2, .null)] := hl
  refine lv_aload_n hx hb dJ0_init_db425_0 rfl (lv_at hl 0 rfl) ?_
  refine W.objInit hx hb hown (hts (.methodLink RJ0 1 objectInit) (by decide +kernel)) (hts (.instanceMethod objectInit) (by decide +kernel)) (hts (.code objectInit ⟨#[0xb1]⟩ 1 none) (by decide +kernel)) rfl (by rw [hml]; exact hl.1) rfl dJ0_init_db425_1 (Nat.le_of_ble_eq_true rfl) (Nat.le_of_ble_eq_true rfl) ?_
  refine W.eq (g2 := F0 m 4 ls []) rfl ?_
  refine lv_aload_n hx hb dJ0_init_db425_4 rfl (lv_at hl 1 rfl) ?_
  refine rowA (wr := [(t, .inr (0, [.null, .int 0, .int 0, .int 0]))]) (wc := [BWo sb vb cnt, BWa ca vb f]) (b := vb) (w9 := [BWo sb vb cnt, BWa ca vb f]) (va_runU (As := []) (rest := []) ⟨hx, hb, hml, hown, hts⟩ (kJ5_getValue_6d5f1 l D ca en ks vs lk lv _ sb vb cnt f) (va_cwU 0 hts gJ0_init_db425_J5_getValue_6d5f1_u552J4 rfl rfl rfl rfl (by decide +kernel) ⟨Nat.le_of_ble_eq_true rfl, Nat.le_of_ble_eq_true rfl⟩) (MGv (wr := [(t, .inr (0, [.null, .int 0, .int 0, .int 0]))]) (q0 := 0) (ci := 1) (YX_ok en ks vs lk lv) hK hP hD hS hA hY (List.Perm.refl _) rfl rfl) rfl rfl hl.1 rfl (lv_room (Nat.le_of_ble_eq_true rfl)) dJ0_init_db425_5 ⟨Nat.le_of_ble_eq_true rfl, Nat.le_of_ble_eq_true rfl⟩) hP hD hS hA (List.Perm.refl _) (fun H locs hP hD hS => ?_)
  refine lv_astore_n (lv' := [(3, .ref vb), (0, .ref t), (1, .ref sb), (2, .null)]) hx hb dJ0_init_db425_8 rfl hl (by decide) rfl (fun ls hl => ?_)
  refine lv_aload_n hx hb dJ0_init_db425_9 rfl (lv_at hl 2 rfl) ?_
  refine rowI (wr := [(t, .inr (0, [.null, .int 0, .int 0, .int 0]))]) (wc := [BWo sb vb cnt, BWa ca vb f]) (f := fun _ : Unit => [BWo sb vb cnt, BWa ca vb f]) (va_runU (As := []) (rest := []) ⟨hx, hb, hml, hown, hts⟩ (kJ4_length_8abf5 l D ca en ks vs lk lv _ sb vb cnt f) (va_cwO 0 hts gJ0_init_db425_J4_length_8abf5_u549J4 rfl rfl rfl (show Cond.code yJ5_length_8abf5 cJ5_length_8abf5 1 (some .int) ∈ wsJ0_init_db425 by decide +kernel) (by decide +kernel) ⟨Nat.le_of_ble_eq_true rfl, Nat.le_of_ble_eq_true rfl⟩) (MGv (wr := [(t, .inr (0, [.null, .int 0, .int 0, .int 0]))]) (q0 := 0) (ci := 1) (YX_ok en ks vs lk lv) hK hP hD hS hA hY (List.Perm.refl _) rfl rfl) rfl rfl hl.1 rfl (lv_room (Nat.le_of_ble_eq_true rfl)) dJ0_init_db425_10 ⟨Nat.le_of_ble_eq_true rfl, Nat.le_of_ble_eq_true rfl⟩) hP hD hS hA (List.Perm.refl _) (fun r9 _ H locs hr9 hP hD hS => ?_)
  subst hr9
  refine lv_istore (lv' := [(4, .int (nI cnt)), (3, .ref vb), (0, .ref t), (1, .ref sb), (2, .null)]) hx hb dJ0_init_db425_13 hl (by decide) rfl (fun ls hl => ?_)
  refine lv_aload_n hx hb dJ0_init_db425_15 rfl (lv_at hl 3 rfl) ?_
  refine rowI (wr := [(t, .inr (0, [.null, .int 0, .int 0, .int 0]))]) (wc := [BWo sb vb cnt, BWa ca vb f]) (f := fun _ : Unit => [BWo sb vb cnt, BWa ca vb f]) (va_runU (As := []) (rest := []) ⟨hx, hb, hml, hown, hts⟩ (kJ5_isLatin1_aae02 l D ca en ks vs lk lv _ sb vb cnt f) (va_cwU 0 hts gJ0_init_db425_J5_isLatin1_aae02_u1047J4 rfl rfl rfl rfl (by decide +kernel) ⟨Nat.le_of_ble_eq_true rfl, Nat.le_of_ble_eq_true rfl⟩) (MGv (wr := [(t, .inr (0, [.null, .int 0, .int 0, .int 0]))]) (q0 := 0) (ci := 1) (YX_ok en ks vs lk lv) hK hP hD hS hA hY (List.Perm.refl _) rfl rfl) rfl rfl hl.1 rfl (lv_room (Nat.le_of_ble_eq_true rfl)) dJ0_init_db425_16 ⟨Nat.le_of_ble_eq_true rfl, Nat.le_of_ble_eq_true rfl⟩) hP hD hS hA (List.Perm.refl _) (fun r9 _ H locs hr9 hP hD hS => ?_)
  subst hr9
  refine lv_if_eq (tgt := 41) hx hb dJ0_init_db425_19 (by decide) (fun q => absurd q (by decide)) (fun _ => ?_)
  have hP : va_P D vwCl [(t, .inr (0, [.null, .int 0, .int 0, .int 0])), BWo sb vb cnt, BWa ca vb f] H := hP
  have hD : va_D A [(t, .inr (0, [.null, .int 0, .int 0, .int 0])), BWo sb vb cnt, BWa ca vb f] := hD
  refine lv_aload_n hx hb dJ0_init_db425_22 rfl (lv_at hl 2 rfl) ?_
  refine lv_iconst (v := 0) hx hb dJ0_init_db425_23 (by decide) ?_
  refine va_putF (D := D) (ci := 0) (v := .int 0) (ty := .byte) (C := RJ0) (T := TJ0) (N := 4) hx hb hts hin0 tyJ0 tyJ0_ok nmJ0 hown hK hP hD hS 0 rfl rfl 1 (by decide) (hts (.fieldLink RJ0 15 "java/lang/String" "coder" "B") (by decide +kernel)) (fun _ h9 => h9) rfl hin rfl (by decide +kernel) rfl rfl (Nat.le_of_ble_eq_true rfl) dJ0_init_db425_24 (fun H locs hP hD hS => ?_)
  refine lv_aload_n hx hb dJ0_init_db425_27 rfl (lv_at hl 2 rfl) ?_
  refine lv_aload_n hx hb dJ0_init_db425_28 rfl (lv_at hl 1 rfl) ?_
  refine lv_iconst (v := 0) hx hb dJ0_init_db425_29 (by decide) ?_
  refine lv_iload hx hb dJ0_init_db425_30 (lv_at hl 0 rfl) ?_
  have hP : va_P D vwCl ([(t, .inr (0, [.null, .int 0, .int 0, .int 0])), BWo sb vb cnt] ++ [BWa ca vb f]) H := hP
  have hD : va_D A ([(t, .inr (0, [.null, .int 0, .int 0, .int 0])), BWo sb vb cnt] ++ [BWa ca vb f]) := hD
  refine rowR (wr := [(t, .inr (0, [.null, .int 0, .int 0, .int 0])), BWo sb vb cnt]) (wc := [BWa ca vb f]) (BR := fun (g : Nat → Int32) (a : Nat) => [BWa ca vb f, (a, .inl (ca 5, cnt, .inl g))]) (va_runS (As := [.ref vb, .int 0, .int (nI cnt)]) (rest := [.ref t]) ⟨hx, hb, hml, hown, hts⟩ (kJ7_copyOfRange_39247 l D ca en ks vs lk lv _ vb cnt f hc hf) (va_cwS 3 hts gJ0_init_db425_J7_copyOfRange_39247 rfl rfl rfl (by decide +kernel) ⟨Nat.le_of_ble_eq_true rfl, Nat.le_of_ble_eq_true rfl⟩) (MGp (wr := [(t, .inr (0, [.null, .int 0, .int 0, .int 0])), BWo sb vb cnt]) (YX_ok en ks vs lk lv) hK hP hD hS hA hY (List.Perm.refl _)) rfl rfl hl.1 rfl (lv_room (Nat.le_of_ble_eq_true rfl)) dJ0_init_db425_32 ⟨Nat.le_of_ble_eq_true rfl, Nat.le_of_ble_eq_true rfl⟩) hP hD hS hA (List.Perm.refl _) (fun g q H locs hg hP hD hS => ?_)
  refine W.widen (k := 1) (n := 16) (Nat.le_of_ble_eq_true rfl) (Nat.le_of_ble_eq_true rfl) ?_
  refine va_putF (D := D) (ci := 0) (v := .ref q) (ty := .array .byte) (C := RJ0) (T := TJ0) (N := 4) hx hb hts hin0 tyJ0 tyJ0_ok nmJ0 hown hK hP hD hS 0 rfl rfl 0 (by decide) (hts (.fieldLink RJ0 9 "java/lang/String" "value" "[B") (by decide +kernel)) (fun _ h9 => h9) rfl hin rfl (by decide +kernel) rfl rfl (Nat.le_of_ble_eq_true rfl) dJ0_init_db425_35 (fun H locs hP hD hS => ?_)
  refine lv_goto (tgt := 97) hx hb dJ0_init_db425_38 (by decide) ?_
  exact W.vret hx hb hr (fun t ht hW => ⟨⟨(g, q), rfl, hg, by rw [ht]; exact hP, va_K.moved hW.alike hK, hD⟩, hS.F ht⟩) hS.2.2 dJ0_init_db425_97
set_option maxHeartbeats 4000000 in
set_option maxRecDepth 100000 in
theorem kJ0_init_81219 (l : Launch) (D : va_G) (ca : Nat → ClassId) (en ks vs lk lv : Nat → Nat) (sz : Nat) (t sb vb cnt : Nat) (f : Nat → Int32) (hc : cnt ≤ 16) (hf : FB f) : Met l yJ0_init_81219 wsJ0_init_81219 ({ frames := 4, cells := 1, slots := 16, locals := 100 }) (MGPc D ca (YX en ks vs lk lv) sz [(t, .inr (0, [.null, .int 0, .int 0, .int 0])), BWo sb vb cnt, BWa ca vb f] [.ref t, .ref sb]) (va_Qv (fun z : ((Nat → Int32) × Nat) => ∀ j, j < cnt → z.1 j = f j) (MB D ca (va_A [(t, .inr (0, [.null, .int 0, .int 0, .int 0])), BWo sb vb cnt, BWa ca vb f] sz) (fun z : ((Nat → Int32) × Nat) => [(t, .inr (0, [.ref z.2, .int 0, .int 0, .int 0])), BWo sb vb cnt, BWa ca vb f, (z.2, .inl (ca 5, cnt, .inl z.1))])) (va_A [(t, .inr (0, [.null, .int 0, .int 0, .int 0])), BWo sb vb cnt, BWa ca vb f] sz)) 1 16 (va_A [(t, .inr (0, [.null, .int 0, .int 0, .int 0])), BWo sb vb cnt, BWa ca vb f] sz) := by
  refine Met.ofW (cc := cJ0_init_81219) (maxL := 2) (ret := none) (by decide) rfl ?_
  intro p e s m args below meth c s₁ B hml hv
  obtain ⟨rfl, hsz, hP, hK, hD0, hY⟩ := hv
  have hx := B.exec
  have hb := B.bytes
  have hr := B.returns
  have hts := atoms_spec (ws := wsJ0_init_81219) B.pre
  have hown : s.vm.findClass RJ0 = some m.cls := findClass_of_methodNamed B.named
  have hlocks := B.notSynchronized
  subst hsz
  have hD := hD0.self (sz := s.heap.size)
  generalize hAe : va_A [(t, .inr (0, [.null, .int 0, .int 0, .int 0])), BWo sb vb cnt, BWa ca vb f] s.heap.size = A at hD hY ⊢
  have hA : ∀ q : Nat, s.heap.size ≤ q → A q := fun q h => by rw [← hAe]; exact Or.inr h
  have hS : va_S A s.heap s.heap [] := va_S.rf
  refine W_entry (Nat.le_of_ble_eq_true rfl) (fun ls hl => ?_)
  have hl : lv_has ls 2 [(0, .ref t), (1, .ref sb)] := hl
  refine lv_aload_n hx hb dJ0_init_81219_0 rfl (lv_at hl 0 rfl) ?_
  refine lv_aload_n hx hb dJ0_init_81219_1 rfl (lv_at hl 1 rfl) ?_
  refine lv_null hx hb dJ0_init_81219_2 ?_
  refine rowV (wr := []) (wc := [(t, .inr (0, [.null, .int 0, .int 0, .int 0])), BWo sb vb cnt, BWa ca vb f]) (f := fun z : ((Nat → Int32) × Nat) => [(t, .inr (0, [.ref z.2, .int 0, .int 0, .int 0])), BWo sb vb cnt, BWa ca vb f, (z.2, .inl (ca 5, cnt, .inl z.1))]) (va_runI (As := [.ref sb, .null]) (rest := []) ⟨hx, hb, hml, hown, hts⟩ (kJ0_init_db425 l D ca en ks vs lk lv _ t sb vb cnt f hc hf) (cwI 2 hts gJ0_init_81219_J0_init_db425 rfl rfl rfl (hts (.initialized RJ0) (by decide +kernel)) (hts (.methodLink RJ0 489 yJ0_init_db425) (by decide +kernel)) (hts (.instanceMethod yJ0_init_db425) (by decide +kernel)) rfl (by decide +kernel) ⟨Nat.le_of_ble_eq_true rfl, Nat.le_of_ble_eq_true rfl⟩) (MGp (wr := []) (YX_ok en ks vs lk lv) hK hP hD hS hA hY (List.Perm.refl _)) rfl rfl hl.1 rfl (lv_room (Nat.le_of_ble_eq_true rfl)) dJ0_init_81219_3 ⟨Nat.le_of_ble_eq_true rfl, Nat.le_of_ble_eq_true rfl⟩) hP hD hS hA (List.Perm.refl _) (fun z H locs hz hP hD hS => ?_)
  refine W.widen (k := 1) (n := 16) (Nat.le_of_ble_eq_true rfl) (Nat.le_of_ble_eq_true rfl) ?_
  exact W.vret hx hb hr (fun t ht hW => ⟨⟨z, rfl, hz, by rw [ht]; exact hP, va_K.moved hW.alike hK, hD⟩, hS.F ht⟩) hS.2.2 dJ0_init_81219_6
set_option maxHeartbeats 4000000 in
set_option maxRecDepth 100000 in
theorem kJ4_toString_0e30d (l : Launch) (D : va_G) (ca : Nat → ClassId) (en ks vs lk lv : Nat → Nat) (sz : Nat) (sb vb cnt : Nat) (f : Nat → Int32) (hc : cnt ≤ 16) (hf : FB f) : Met l yJ4_toString_0e30d wsJ4_toString_0e30d ({ frames := 5, cells := 2, slots := 20, locals := 121 }) (MGPc D ca (YX en ks vs lk lv) sz [BWo sb vb cnt, BWa ca vb f] [.ref sb]) (va_Qr (fun z : ((Nat → Int32) × Nat) => ∀ j, j < cnt → z.1 j = f j) (fun u a t => MB D ca (va_A [BWo sb vb cnt, BWa ca vb f] sz) (fun z : ((Nat → Int32) × Nat) => [(a, .inr (0, [.ref z.2, .int 0, .int 0, .int 0])), BWo sb vb cnt, BWa ca vb f, (z.2, .inl (ca 5, cnt, .inl z.1))]) u t) (va_A [BWo sb vb cnt, BWa ca vb f] sz)) 2 20 (va_A [BWo sb vb cnt, BWa ca vb f] sz) := by
  refine Met.ofW (cc := cJ4_toString_0e30d) (maxL := 1) (ret := (some (.object "java/lang/String"))) (by decide) rfl ?_
  intro p e s m args below meth c s₁ B hml hv
  obtain ⟨rfl, hsz, hP, hK, hD0, hY⟩ := hv
  have hx := B.exec
  have hb := B.bytes
  have hr := B.returns
  have hts := atoms_spec (ws := wsJ4_toString_0e30d) B.pre
  have hown : s.vm.findClass RJ4 = some m.cls := findClass_of_methodNamed B.named
  have hlocks := B.notSynchronized
  subst hsz
  have hD := hD0.self (sz := s.heap.size)
  generalize hAe : va_A [BWo sb vb cnt, BWa ca vb f] s.heap.size = A at hD hY ⊢
  have hA : ∀ q : Nat, s.heap.size ≤ q → A q := fun q h => by rw [← hAe]; exact Or.inr h
  have hS : va_S A s.heap s.heap [] := va_S.rf
  refine W_entry (Nat.le_of_ble_eq_true rfl) (fun ls hl => ?_)
  have hl : lv_has ls 1 [(0, .ref sb)] := hl
  have hin0 : ∀ w ∈ wsJ00, w ∈ wsJ4_toString_0e30d := by decide +kernel
  refine va_new (ci := 0) (fs := [.null, .int 0, .int 0, .int 0]) (C := RJ0) (T := TJ0) (N := 4) hx hb hts hin0 tyJ0 tyJ0_ok hown (hts (.classLink RJ4 18 RJ0) (by decide +kernel)) (hts (.instantiable RJ0 4) (by decide +kernel)) (hts (.initialized RJ0) (by decide +kernel)) hK hP hD hS hA rfl (fun j hj => by rcases (show j = 0 ∨ j = 1 ∨ j = 2 ∨ j = 3 by omega) with rfl | rfl | rfl | rfl <;> rfl) (Nat.le_of_ble_eq_true rfl) (Nat.le_of_ble_eq_true rfl) dJ4_toString_0e30d_0 (fun t H hP hD hS => ?_)
  refine W.widen (k := 1) (n := 4) (Nat.le_of_ble_eq_true rfl) (Nat.le_of_ble_eq_true rfl) ?_
  refine lv_dup hx hb dJ4_toString_0e30d_3 rfl ?_
  refine lv_aload_n hx hb dJ4_toString_0e30d_4 rfl (lv_at hl 0 rfl) ?_
  refine rowV (wr := []) (wc := [(t, .inr (0, [.null, .int 0, .int 0, .int 0])), BWo sb vb cnt, BWa ca vb f]) (f := fun z : ((Nat → Int32) × Nat) => [(t, .inr (0, [.ref z.2, .int 0, .int 0, .int 0])), BWo sb vb cnt, BWa ca vb f, (z.2, .inl (ca 5, cnt, .inl z.1))]) (va_runI (As := [.ref sb]) (rest := [.ref t]) ⟨hx, hb, hml, hown, hts⟩ (kJ0_init_81219 l D ca en ks vs lk lv _ t sb vb cnt f hc hf) (cwI 1 hts gJ4_toString_0e30d_J0_init_81219 rfl rfl rfl (hts (.initialized RJ0) (by decide +kernel)) (hts (.methodLink RJ4 137 yJ0_init_81219) (by decide +kernel)) (hts (.instanceMethod yJ0_init_81219) (by decide +kernel)) rfl (by decide +kernel) ⟨Nat.le_of_ble_eq_true rfl, Nat.le_of_ble_eq_true rfl⟩) (MGp (wr := []) (YX_ok en ks vs lk lv) hK hP hD hS hA hY List.perm_append_comm) rfl rfl hl.1 rfl (lv_room (Nat.le_of_ble_eq_true rfl)) dJ4_toString_0e30d_5 ⟨Nat.le_of_ble_eq_true rfl, Nat.le_of_ble_eq_true rfl⟩) hP hD hS hA List.perm_append_comm (fun z H locs hz hP hD hS => ?_)
  refine W.widen (k := 2) (n := 20) (Nat.le_of_ble_eq_true rfl) (Nat.le_of_ble_eq_true rfl) ?_
  exact W.aret (v := .ref t) hx hb hr (Or.inl ⟨_, rfl⟩) (Or.inr ⟨_, rfl⟩) (fun t9 ht hW => ⟨⟨z, t, rfl, hz, by rw [ht]; exact hP, va_K.moved hW.alike hK, hD⟩, hS.F ht⟩) hS.2.2 dJ4_toString_0e30d_8
