/-- a new command text -/
def Cnew : CS := ((fun _ => 0), 0, (fun _ => 0), (fun _ => 0), (fun _ => 0), 0, 0)
/-- a row of commands filled up to k -/
def cpre (en : Nat → Nat) (k : Nat) : Nat → Option Nat := fun j => if j < k then some (en 0) else none
theorem cpre_up {en : Nat → Nat} {k : Nat} : va_up (cpre en k) k (some (en 0)) = cpre en (k + 1) := by
  funext j
  unfold va_up cpre
  by_cases h : j = k
  · subst h
    rw [if_pos rfl, if_pos (Nat.lt_succ_self j)]
  · rw [if_neg h]
    by_cases g : j < k
    · rw [if_pos g, if_pos (Nat.lt_succ_of_lt g)]
    · rw [if_neg g, if_neg (by omega)]
def CW0 (ca : Nat → ClassId) (g : Nat → Option Nat) (b : Nat → Nat) : va_W := [(b 4, .inr (3, [.ref (b 0), .int 0, .ref (b 1), .ref (b 2), .ref (b 3), .int 0, .int 0])), (b 0, .inl (ca 2, 60, .inl (fun _ => 0))), (b 1, .inl (ca 4, 10, .inr (.inr (.inr (.inr g))))), (b 2, .inl (ca 0, 10, .inl (fun _ => 0))), (b 3, .inl (ca 0, 10, .inl (fun _ => 0)))]
theorem CW0_end {D : va_G} {ca : Nat → ClassId} {en b : Nat → Nat} {H : Heap} (h : va_P D vwCl (CW0 ca (cpre en 10) b) H) : va_P D vwCl (CW ca en b Cnew) H := by
  have e : vp_cell (ca 4) (10, .inr (.inr (.inr (.inr (cpre en 10))))) = vp_cell (ca 4) (10, .inr (.inr (.inr (.inr (fun k => some (en (q2 Cnew k))))))) := by
    show arrV (ca 4) 10 (fun j => va_rf (cpre en 10 j)) = arrV (ca 4) 10 (fun _ => va_rf (some (en 0)))
    refine arrV_congr (fun j hj => ?_)
    unfold cpre
    rw [if_pos hj]
  intro k q hk
  match k, hk with
  | 0, hk => exact h 0 q hk
  | 1, hk => exact h 1 q hk
  | 2, hk =>
    cases hk
    exact (show H[b 1]? = some (vp_cell (ca 4) (10, .inr (.inr (.inr (.inr (cpre en 10)))))) from h 2 _ rfl).trans (congrArg some e)
  | 3, hk => exact h 3 q hk
  | 4, hk => exact h 4 q hk
  | k + 5, hk => cases hk

set_option maxHeartbeats 4000000 in
set_option maxRecDepth 100000 in
theorem kX2_init (l : Launch) (D : va_G) (ca : Nat → ClassId) (en ks vs : Nat → Nat) (h : Nat) (sz : Nat) : Met l yX2_init wsX2_init ({ frames := 1, cells := 4, slots := 90, locals := 12 }) (MGPc D ca (HX en ks vs) sz [(h, .inr (3, [.null, .int 0, .null, .null, .null, .int 0, .int 0]))] [.ref h]) (va_Qv (fun b : Nat → Nat => b 4 = h) (MB D ca (va_A [(h, .inr (3, [.null, .int 0, .null, .null, .null, .int 0, .int 0]))] sz) (fun b => CW ca en b Cnew)) (va_A [(h, .inr (3, [.null, .int 0, .null, .null, .null, .int 0, .int 0]))] sz)) 4 90 (va_A [(h, .inr (3, [.null, .int 0, .null, .null, .null, .int 0, .int 0]))] sz) := by
  refine Met.ofW (cc := cX2_init) (maxL := 2) (ret := none) (by decide) rfl ?_
  intro p e s m args below meth c s₁ B hml hv
  obtain ⟨rfl, hsz, hP, hK, hD0, hX⟩ := hv
  have hx := B.exec
  have hb := B.bytes
  have hr := B.returns
  have hts := atoms_spec (ws := wsX2_init) B.pre
  have hown : s.vm.findClass RX2 = some m.cls := findClass_of_methodNamed B.named
  have hlocks := B.notSynchronized
  have hin9 : ∀ w ∈ wsX20, w ∈ wsX2_init := by decide +kernel
  subst hsz
  have hD := hD0.self (sz := s.heap.size)
  generalize hAe : va_A [(h, .inr (3, [.null, .int 0, .null, .null, .null, .int 0, .int 0]))] s.heap.size = A at hD hX ⊢
  have hA : ∀ q : Nat, s.heap.size ≤ q → A q := fun q h => by rw [← hAe]; exact Or.inr h
  have hS : va_S A s.heap s.heap [] := va_S.rf
  have hin : meth.name = "<init>" := (name_of_methodNamed B.named B.method).1
  have cut : ∀ (n k : Nat) (hnk : n + k = 10) (b : Nat → Nat) (hb4 : b 4 = h) (H : Heap) (locs : List Loc) (hP : va_P D vwCl (CW0 ca (cpre en k) b) H) (hD : va_D A (CW0 ca (cpre en k) b)) (hS : va_S A s.heap H locs) (ls : Array Slot) (hl : lv_has ls 2 [(0, .ref (b 4)), (1, .int (nI k))]), W p l e (headSpec wsX2_init ({ frames := 1, cells := 4, slots := 90, locals := 12 })).room s m ([.ref h] : List Value).toArray below meth c H locs 4 90 (MQ below (va_Qv (fun b : Nat → Nat => b 4 = h) (MB D ca (A) (fun b => CW ca en b Cnew)) (A)) ([.ref h] : List Value).toArray s 4 90 A) (F0 m 54 ls []) := by
    intro n
    induction n with
    | zero =>
      intro k hnk b hb4 H locs hP hD hS ls hl
      obtain rfl : 10 = k := by omega
      refine lv_iload_n hx hb dX2_init_54 rfl (lv_at hl 1 rfl) ?_
      refine lv_bipush (v := 10) hx hb dX2_init_55 (by decide) ?_
      refine lv_icmp_ge (tgt := 75) hx hb dX2_init_57 (by decide) (fun _ => ?_) (fun q => absurd (by decide) q)
      exact W.vret hx hb hr (fun t ht hW => ⟨⟨b, rfl, hb4, by rw [ht]; exact CW0_end hP, va_K.moved hW.alike hK, D_addr (w1 := CW0 ca (cpre en 10) b) (w2 := CW ca en b Cnew) rfl hD⟩, hS.F ht⟩) hS.2.2 dX2_init_75
    | succ n ih =>
      intro k hnk b hb4 H locs hP hD hS ls hl
      refine lv_iload_n hx hb dX2_init_54 rfl (lv_at hl 1 rfl) ?_
      refine lv_bipush (v := 10) hx hb dX2_init_55 (by decide) ?_
      refine lv_icmp_ge (tgt := 75) hx hb dX2_init_57 (by decide) (fun q => absurd q (show ¬ (10 : Int32) ≤ nI k from nI_ge (b := 10) (by omega) (by decide))) (fun _ => ?_)
      refine lv_aload_n hx hb dX2_init_60 rfl (lv_at hl 0 rfl) ?_
      refine va_get (D := D) (ci := 3) (v := .ref (b 1)) (C := RX2) (T := TX2) (N := 7) hx hb hts hin9 hown hK hP 0 rfl rfl 2 (by decide) (hts (.fieldLink RX2 21 "HatReservations$CommandText" "commands" "[LHatReservations$Command;") (by decide +kernel)) (fun _ h9 => h9) rfl dX2_init_61 ?_
      refine lv_iload_n hx hb dX2_init_64 rfl (lv_at hl 1 rfl) ?_
      refine va_gets hx hb (hX.1.2.1.1 0 (by decide)).1 hS hown (hts (.fieldLink RX2 38 "HatReservations$Command" "GUEST" "LHatReservations$Command;") (by decide +kernel)) (fun _ h9 => h9) dX2_init_65 ?_
      refine vb_astq (C := "HatReservations$Command") (E := "HatReservations$Command") hx hb hK hP hD hS 2 4 rfl rfl (va_Orecv (hX.1.2.1.1 0 (by decide)).2.1 hS) (fun comp c0 h1 h2 => by cases h1.symm.trans h2; exact va_asg _ _) (vp_in_nI (show k < 10 by omega) (by decide)) dX2_init_68 ?_
      rw [nI_clamp (by omega), cpre_up]
      intro H locs hP hD hS
      have hP : va_P D vwCl (CW0 ca (cpre en (k + 1)) b) H := hP
      have hD : va_D A (CW0 ca (cpre en (k + 1)) b) := hD
      refine lv_iinc (v := nI (k + 1)) (lv' := [(1, .int (nI (k + 1))), (0, .ref (b 4))]) hx hb dX2_init_69 hl (k := 1) rfl (nI_1 k) (by decide) rfl (fun ls hl => ?_)
      refine lv_goto (tgt := 54) hx hb dX2_init_72 (by decide) ?_
      exact ih (k + 1) (by omega) b hb4 _ _ hP hD hS ls (lv_sub hl [1, 0] rfl)
  refine W_entry (Nat.le_of_ble_eq_true rfl) (fun ls hl => ?_)
  have hl : lv_has ls 2 [(0, .ref h)] := hl
  refine lv_aload_n hx hb dX2_init_0 rfl (lv_at hl 0 rfl) ?_
  refine W.objInit hx hb hown (hts (.methodLink RX2 3 objectInit) (by decide +kernel)) (hts (.instanceMethod objectInit) (by decide +kernel)) (hts (.code objectInit ⟨#[0xb1]⟩ 1 none) (by decide +kernel)) rfl (by rw [hml]; exact hl.1) rfl dX2_init_1 (Nat.le_of_ble_eq_true rfl) (Nat.le_of_ble_eq_true rfl) ?_
  refine W.eq (g2 := F0 m 4 ls []) rfl ?_
  refine lv_aload_n hx hb dX2_init_4 rfl (lv_at hl 0 rfl) ?_
  refine lv_bipush (v := 60) hx hb dX2_init_5 (by decide) ?_
  refine newc 60 hx hb (hts (.arrayClass .char) (by decide +kernel)) hK hP hD hS hA (by decide) (by decide) (Nat.le_of_ble_eq_true rfl) (Nat.le_of_ble_eq_true rfl) (Nat.le_of_ble_eq_true rfl) dX2_init_7 (fun q0 H hP hD hS => ?_)
  have hP : va_P D vwCl [(h, .inr (3, [.null, .int 0, .null, .null, .null, .int 0, .int 0])), (q0, .inl (ca 2, 60, .inl (fun _ => 0)))] H := hP
  have hD : va_D A [(h, .inr (3, [.null, .int 0, .null, .null, .null, .int 0, .int 0])), (q0, .inl (ca 2, 60, .inl (fun _ => 0)))] := hD
  refine W.widen (k := 1) (n := 60) (Nat.le_of_ble_eq_true rfl) (Nat.le_of_ble_eq_true rfl) ?_
  refine va_putF (D := D) (ci := 3) (v := .ref q0) (ty := .array .char) (C := RX2) (T := TX2) (N := 7) hx hb hts hin9 tyX2 tyX2_ok nmX2 hown hK hP hD hS 0 rfl rfl 0 (by decide) (hts (.fieldLink RX2 9 "HatReservations$CommandText" "characters" "[C") (by decide +kernel)) (fun _ h9 => h9) rfl hin rfl (by decide +kernel) rfl rfl (Nat.le_of_ble_eq_true rfl) dX2_init_9 (fun H locs hP hD hS => ?_)
  have hP : va_P D vwCl [(h, .inr (3, [.ref q0, .int 0, .null, .null, .null, .int 0, .int 0])), (q0, .inl (ca 2, 60, .inl (fun _ => 0)))] H := hP
  have hD : va_D A [(h, .inr (3, [.ref q0, .int 0, .null, .null, .null, .int 0, .int 0])), (q0, .inl (ca 2, 60, .inl (fun _ => 0)))] := hD
  refine lv_aload_n hx hb dX2_init_12 rfl (lv_at hl 0 rfl) ?_
  refine lv_iconst (v := 0) hx hb dX2_init_13 (by decide) ?_
  refine va_put (D := D) (ci := 3) (v := .int 0) (ty := .int) (C := RX2) (T := TX2) (N := 7) hx hb hts hin9 tyX2 tyX2_ok nmX2 hown hK hP hD hS 0 rfl rfl 1 (by decide) (hts (.fieldLink RX2 15 "HatReservations$CommandText" "length" "I") (by decide +kernel)) (fun _ h9 => h9) rfl (by decide +kernel) rfl rfl (Nat.le_of_ble_eq_true rfl) dX2_init_14 (fun H locs hP hD hS => ?_)
  have hP : va_P D vwCl [(h, .inr (3, [.ref q0, .int 0, .null, .null, .null, .int 0, .int 0])), (q0, .inl (ca 2, 60, .inl (fun _ => 0)))] H := hP
  have hD : va_D A [(h, .inr (3, [.ref q0, .int 0, .null, .null, .null, .int 0, .int 0])), (q0, .inl (ca 2, 60, .inl (fun _ => 0)))] := hD
  refine lv_aload_n hx hb dX2_init_17 rfl (lv_at hl 0 rfl) ?_
  refine lv_bipush (v := 10) hx hb dX2_init_18 (by decide) ?_
  refine newq 4 10 hx hb hown (hts (.classLink RX2 19 RX1) (by decide +kernel)) hX.2.1.1 (fun _ => rfl) (by decide) hK hP hD hS hA (by decide) (by decide) (Nat.le_of_ble_eq_true rfl) (Nat.le_of_ble_eq_true rfl) (Nat.le_of_ble_eq_true rfl) dX2_init_20 (fun q1 H hP hD hS => ?_)
  have hP : va_P D vwCl [(h, .inr (3, [.ref q0, .int 0, .null, .null, .null, .int 0, .int 0])), (q0, .inl (ca 2, 60, .inl (fun _ => 0))), (q1, .inl (ca 4, 10, .inr (.inr (.inr (.inr (fun _ => none))))))] H := hP
  have hD : va_D A [(h, .inr (3, [.ref q0, .int 0, .null, .null, .null, .int 0, .int 0])), (q0, .inl (ca 2, 60, .inl (fun _ => 0))), (q1, .inl (ca 4, 10, .inr (.inr (.inr (.inr (fun _ => none))))))] := hD
  refine W.widen (k := 2) (n := 70) (Nat.le_of_ble_eq_true rfl) (Nat.le_of_ble_eq_true rfl) ?_
  refine va_putF (D := D) (ci := 3) (v := .ref q1) (ty := .array (.object "HatReservations$Command")) (C := RX2) (T := TX2) (N := 7) hx hb hts hin9 tyX2 tyX2_ok nmX2 hown hK hP hD hS 0 rfl rfl 2 (by decide) (hts (.fieldLink RX2 21 "HatReservations$CommandText" "commands" "[LHatReservations$Command;") (by decide +kernel)) (fun _ h9 => h9) rfl hin rfl (by decide +kernel) rfl rfl (Nat.le_of_ble_eq_true rfl) dX2_init_23 (fun H locs hP hD hS => ?_)
  have hP : va_P D vwCl [(h, .inr (3, [.ref q0, .int 0, .ref q1, .null, .null, .int 0, .int 0])), (q0, .inl (ca 2, 60, .inl (fun _ => 0))), (q1, .inl (ca 4, 10, .inr (.inr (.inr (.inr (fun _ => none))))))] H := hP
  have hD : va_D A [(h, .inr (3, [.ref q0, .int 0, .ref q1, .null, .null, .int 0, .int 0])), (q0, .inl (ca 2, 60, .inl (fun _ => 0))), (q1, .inl (ca 4, 10, .inr (.inr (.inr (.inr (fun _ => none))))))] := hD
  refine lv_aload_n hx hb dX2_init_26 rfl (lv_at hl 0 rfl) ?_
  refine lv_bipush (v := 10) hx hb dX2_init_27 (by decide) ?_
  refine newi 10 hx hb (hts (.arrayClass .int) (by decide +kernel)) hK hP hD hS hA (by decide) (by decide) (Nat.le_of_ble_eq_true rfl) (Nat.le_of_ble_eq_true rfl) (Nat.le_of_ble_eq_true rfl) dX2_init_29 (fun q2 H hP hD hS => ?_)
  have hP : va_P D vwCl [(h, .inr (3, [.ref q0, .int 0, .ref q1, .null, .null, .int 0, .int 0])), (q0, .inl (ca 2, 60, .inl (fun _ => 0))), (q1, .inl (ca 4, 10, .inr (.inr (.inr (.inr (fun _ => none)))))), (q2, .inl (ca 0, 10, .inl (fun _ => 0)))] H := hP
  have hD : va_D A [(h, .inr (3, [.ref q0, .int 0, .ref q1, .null, .null, .int 0, .int 0])), (q0, .inl (ca 2, 60, .inl (fun _ => 0))), (q1, .inl (ca 4, 10, .inr (.inr (.inr (.inr (fun _ => none)))))), (q2, .inl (ca 0, 10, .inl (fun _ => 0)))] := hD
  refine W.widen (k := 3) (n := 80) (Nat.le_of_ble_eq_true rfl) (Nat.le_of_ble_eq_true rfl) ?_
  refine va_putF (D := D) (ci := 3) (v := .ref q2) (ty := .array .int) (C := RX2) (T := TX2) (N := 7) hx hb hts hin9 tyX2 tyX2_ok nmX2 hown hK hP hD hS 0 rfl rfl 3 (by decide) (hts (.fieldLink RX2 25 "HatReservations$CommandText" "firsts" "[I") (by decide +kernel)) (fun _ h9 => h9) rfl hin rfl (by decide +kernel) rfl rfl (Nat.le_of_ble_eq_true rfl) dX2_init_31 (fun H locs hP hD hS => ?_)
  have hP : va_P D vwCl [(h, .inr (3, [.ref q0, .int 0, .ref q1, .ref q2, .null, .int 0, .int 0])), (q0, .inl (ca 2, 60, .inl (fun _ => 0))), (q1, .inl (ca 4, 10, .inr (.inr (.inr (.inr (fun _ => none)))))), (q2, .inl (ca 0, 10, .inl (fun _ => 0)))] H := hP
  have hD : va_D A [(h, .inr (3, [.ref q0, .int 0, .ref q1, .ref q2, .null, .int 0, .int 0])), (q0, .inl (ca 2, 60, .inl (fun _ => 0))), (q1, .inl (ca 4, 10, .inr (.inr (.inr (.inr (fun _ => none)))))), (q2, .inl (ca 0, 10, .inl (fun _ => 0)))] := hD
  refine lv_aload_n hx hb dX2_init_34 rfl (lv_at hl 0 rfl) ?_
  refine lv_bipush (v := 10) hx hb dX2_init_35 (by decide) ?_
  refine newi 10 hx hb (hts (.arrayClass .int) (by decide +kernel)) hK hP hD hS hA (by decide) (by decide) (Nat.le_of_ble_eq_true rfl) (Nat.le_of_ble_eq_true rfl) (Nat.le_of_ble_eq_true rfl) dX2_init_37 (fun q3 H hP hD hS => ?_)
  have hP : va_P D vwCl [(h, .inr (3, [.ref q0, .int 0, .ref q1, .ref q2, .null, .int 0, .int 0])), (q0, .inl (ca 2, 60, .inl (fun _ => 0))), (q1, .inl (ca 4, 10, .inr (.inr (.inr (.inr (fun _ => none)))))), (q2, .inl (ca 0, 10, .inl (fun _ => 0))), (q3, .inl (ca 0, 10, .inl (fun _ => 0)))] H := hP
  have hD : va_D A [(h, .inr (3, [.ref q0, .int 0, .ref q1, .ref q2, .null, .int 0, .int 0])), (q0, .inl (ca 2, 60, .inl (fun _ => 0))), (q1, .inl (ca 4, 10, .inr (.inr (.inr (.inr (fun _ => none)))))), (q2, .inl (ca 0, 10, .inl (fun _ => 0))), (q3, .inl (ca 0, 10, .inl (fun _ => 0)))] := hD
  refine W.widen (k := 4) (n := 90) (Nat.le_of_ble_eq_true rfl) (Nat.le_of_ble_eq_true rfl) ?_
  refine va_putF (D := D) (ci := 3) (v := .ref q3) (ty := .array .int) (C := RX2) (T := TX2) (N := 7) hx hb hts hin9 tyX2 tyX2_ok nmX2 hown hK hP hD hS 0 rfl rfl 4 (by decide) (hts (.fieldLink RX2 29 "HatReservations$CommandText" "seconds" "[I") (by decide +kernel)) (fun _ h9 => h9) rfl hin rfl (by decide +kernel) rfl rfl (Nat.le_of_ble_eq_true rfl) dX2_init_39 (fun H locs hP hD hS => ?_)
  have hP : va_P D vwCl [(h, .inr (3, [.ref q0, .int 0, .ref q1, .ref q2, .ref q3, .int 0, .int 0])), (q0, .inl (ca 2, 60, .inl (fun _ => 0))), (q1, .inl (ca 4, 10, .inr (.inr (.inr (.inr (fun _ => none)))))), (q2, .inl (ca 0, 10, .inl (fun _ => 0))), (q3, .inl (ca 0, 10, .inl (fun _ => 0)))] H := hP
  have hD : va_D A [(h, .inr (3, [.ref q0, .int 0, .ref q1, .ref q2, .ref q3, .int 0, .int 0])), (q0, .inl (ca 2, 60, .inl (fun _ => 0))), (q1, .inl (ca 4, 10, .inr (.inr (.inr (.inr (fun _ => none)))))), (q2, .inl (ca 0, 10, .inl (fun _ => 0))), (q3, .inl (ca 0, 10, .inl (fun _ => 0)))] := hD
  refine lv_aload_n hx hb dX2_init_42 rfl (lv_at hl 0 rfl) ?_
  refine lv_iconst (v := 0) hx hb dX2_init_43 (by decide) ?_
  refine va_put (D := D) (ci := 3) (v := .int 0) (ty := .int) (C := RX2) (T := TX2) (N := 7) hx hb hts hin9 tyX2 tyX2_ok nmX2 hown hK hP hD hS 0 rfl rfl 5 (by decide) (hts (.fieldLink RX2 32 "HatReservations$CommandText" "commandCount" "I") (by decide +kernel)) (fun _ h9 => h9) rfl (by decide +kernel) rfl rfl (Nat.le_of_ble_eq_true rfl) dX2_init_44 (fun H locs hP hD hS => ?_)
  have hP : va_P D vwCl [(h, .inr (3, [.ref q0, .int 0, .ref q1, .ref q2, .ref q3, .int 0, .int 0])), (q0, .inl (ca 2, 60, .inl (fun _ => 0))), (q1, .inl (ca 4, 10, .inr (.inr (.inr (.inr (fun _ => none)))))), (q2, .inl (ca 0, 10, .inl (fun _ => 0))), (q3, .inl (ca 0, 10, .inl (fun _ => 0)))] H := hP
  have hD : va_D A [(h, .inr (3, [.ref q0, .int 0, .ref q1, .ref q2, .ref q3, .int 0, .int 0])), (q0, .inl (ca 2, 60, .inl (fun _ => 0))), (q1, .inl (ca 4, 10, .inr (.inr (.inr (.inr (fun _ => none)))))), (q2, .inl (ca 0, 10, .inl (fun _ => 0))), (q3, .inl (ca 0, 10, .inl (fun _ => 0)))] := hD
  refine lv_aload_n hx hb dX2_init_47 rfl (lv_at hl 0 rfl) ?_
  refine lv_iconst (v := 0) hx hb dX2_init_48 (by decide) ?_
  refine va_put (D := D) (ci := 3) (v := .int 0) (ty := .int) (C := RX2) (T := TX2) (N := 7) hx hb hts hin9 tyX2 tyX2_ok nmX2 hown hK hP hD hS 0 rfl rfl 6 (by decide) (hts (.fieldLink RX2 35 "HatReservations$CommandText" "position" "I") (by decide +kernel)) (fun _ h9 => h9) rfl (by decide +kernel) rfl rfl (Nat.le_of_ble_eq_true rfl) dX2_init_49 (fun H locs hP hD hS => ?_)
  have hP : va_P D vwCl [(h, .inr (3, [.ref q0, .int 0, .ref q1, .ref q2, .ref q3, .int 0, .int 0])), (q0, .inl (ca 2, 60, .inl (fun _ => 0))), (q1, .inl (ca 4, 10, .inr (.inr (.inr (.inr (fun _ => none)))))), (q2, .inl (ca 0, 10, .inl (fun _ => 0))), (q3, .inl (ca 0, 10, .inl (fun _ => 0)))] H := hP
  have hD : va_D A [(h, .inr (3, [.ref q0, .int 0, .ref q1, .ref q2, .ref q3, .int 0, .int 0])), (q0, .inl (ca 2, 60, .inl (fun _ => 0))), (q1, .inl (ca 4, 10, .inr (.inr (.inr (.inr (fun _ => none)))))), (q2, .inl (ca 0, 10, .inl (fun _ => 0))), (q3, .inl (ca 0, 10, .inl (fun _ => 0)))] := hD
  refine lv_iconst (v := 0) hx hb dX2_init_52 (by decide) ?_
  refine lv_istore_n (lv' := [(1, .int 0), (0, .ref h)]) hx hb dX2_init_53 rfl hl (by decide) rfl (fun ls hl => ?_)
  have e0 : cpre en 0 = fun _ => none := by funext j; unfold cpre; rw [if_neg (Nat.not_lt_zero j)]
  exact cut 10 0 (by omega) (fun k => match k with | 0 => q0 | 1 => q1 | 2 => q2 | 3 => q3 | _ => h) rfl _ _ (by rw [e0]; exact hP) (by rw [e0]; exact hD) hS ls (lv_sub hl [1, 0] rfl)
