/-- numbers of guests that a hall can have -/
abbrev HI (u : HS) : Prop := 0 ≤ h9 u ∧ h9 u ≤ 8
theorem hasChair_in {x : Int32} (h : ¬ fX3_hasChair x = 0) : vp_in x 40 := by
  unfold fX3_hasChair at h
  by_cases c1 : x < 0
  · rw [if_pos c1] at h; exact absurd rfl h
  · rw [if_neg c1] at h
    by_cases c2 : 40 ≤ x
    · rw [if_pos c2] at h; exact absurd rfl h
    · rw [vp_in_iff]
      rw [Int32.le_iff_toInt_le] at c2
      rw [Int32.lt_iff_toInt_lt] at c1
      have e0 : (0 : Int32).toInt = 0 := by decide
      have e8 : (40 : Int32).toInt = 40 := by decide
      rw [e0] at c1; rw [e8] at c2
      omega
theorem guest_ok {u : HS} {x y : Int32} (hi : HI u) (h : fX3_refusalOfGuest u x y = 0) : vp_in (h9 u) 8 := by
  unfold fX3_refusalOfGuest at h
  split at h
  · exact absurd h (by decide)
  · split at h
    · exact absurd h (by decide)
    · split at h
      · exact absurd h (by decide)
      · split at h
        · split at h
          · rename_i c
            rw [vp_in_iff]
            have h1 := hi.1
            rw [Int32.le_iff_toInt_le] at h1
            rw [Int32.lt_iff_toInt_lt] at c
            have e0 : (0 : Int32).toInt = 0 := by decide
            have e8 : (8 : Int32).toInt = 8 := by decide
            rw [e0] at h1; rw [e8] at c
            omega
          · exact absurd h (by decide)
        · exact absurd h (by decide)
theorem hat_ok {u : HS} {x y : Int32} (hgs : h9 u ≤ 8) (h : fX3_refusalOfHat u x y = 0) : vp_in x 8 ∧ vp_in y 40 := by
  unfold fX3_refusalOfHat at h
  split at h
  · exact absurd h (by decide)
  · split at h
    · exact absurd h (by decide)
    · exact ⟨hasGuest_in hgs (by assumption), hasChair_in (by assumption)⟩
theorem coat_ok {u : HS} {x y : Int32} (hgs : h9 u ≤ 8) (h : fX3_refusalOfCoat u x y = 0) : vp_in x 8 ∧ vp_in y 40 := by
  unfold fX3_refusalOfCoat at h
  split at h
  · exact absurd h (by decide)
  · split at h
    · exact absurd h (by decide)
    · exact ⟨hasGuest_in hgs (by assumption), hasChair_in (by assumption)⟩
theorem contest_ok {u : HS} {x y : Int32} (hgs : h9 u ≤ 8) (h : fX3_refusalOfContest u x y = 0) : vp_in x 8 ∧ vp_in y 40 := by
  unfold fX3_refusalOfContest at h
  split at h
  · exact absurd h (by decide)
  · split at h
    · exact absurd h (by decide)
    · exact ⟨hasGuest_in hgs (by assumption), hasChair_in (by assumption)⟩
theorem noHat_ok {u : HS} {x : Int32} (hgs : h9 u ≤ 8) (h : fX3_refusalWithoutHat u x = 0) : vp_in x 8 := by
  unfold fX3_refusalWithoutHat at h
  split at h
  · exact absurd h (by decide)
  · exact hasGuest_in hgs (by assumption)
theorem noCoat_ok {u : HS} {x : Int32} (hgs : h9 u ≤ 8) (h : fX3_refusalWithoutCoat u x = 0) : vp_in x 8 := by
  unfold fX3_refusalWithoutCoat at h
  split at h
  · exact absurd h (by decide)
  · exact hasGuest_in hgs (by assumption)
theorem feather_ok {u : HS} {x : Int32} (hgs : h9 u ≤ 8) (h : fX3_refusalOfFeather u x = 0) : vp_in x 8 := by
  unfold fX3_refusalOfFeather at h
  split at h
  · exact absurd h (by decide)
  · exact hasGuest_in hgs (by assumption)
def OPc (o : Int32) (av : List Value) (t : Nat) : Array Value → State → Prop := va_Pc av (fun U => va_OF "java/lang/Enum" "ordinal" "I" (.int o) t FF U U.heap)
theorem OPc_blind {o : Int32} {av : List Value} {t : Nat} : FrameBlind (OPc o av t) := fun a U g mk q => by
  obtain ⟨q0, qT⟩ := q
  exact ⟨q0, va_OF.moved (u := U) (U := U.calling g mk a) (Vm.Alike.refl U.vm) qT⟩
set_option maxHeartbeats 4000000 in
set_option maxRecDepth 100000 in
theorem kJx29ce0_ordinal_8abf5 (l : Launch) (t : Nat) (o : Int32) : Met l yJx29ce0_ordinal_8abf5 wsJx29ce0_ordinal_8abf5 ({ frames := 0, cells := 0, slots := 0, locals := 0 }) (OPc o [.ref t] t) (vp_Si (fun r => r = o)) 0 0 (fun _ => False) := by
  refine Met.ofW (cc := cJx29ce0_ordinal_8abf5) (maxL := 1) (ret := (some .int)) (by decide) rfl ?_
  intro p e s m args below meth c s₁ B hml hv
  obtain ⟨rfl, hO⟩ := hv
  have hx := B.exec
  have hb := B.bytes
  have hr := B.returns
  have hts := atoms_spec (ws := wsJx29ce0_ordinal_8abf5) B.pre
  have hown : s.vm.findClass RJx29ce0 = some m.cls := findClass_of_methodNamed B.named
  have hlocks := B.notSynchronized
  have hO : va_OF "java/lang/Enum" "ordinal" "I" (.int o) t FF s s.heap := hO
  have hS : va_S (fun _ => False) s.heap s.heap [] := va_S.rf
  refine W_entry (Nat.le_of_ble_eq_true rfl) (fun ls hl => ?_)
  have hl : lv_has ls 1 [(0, .ref t)] := hl
  refine lv_aload_n hx hb dJx29ce0_ordinal_8abf5_0 rfl (lv_at hl 0 rfl) ?_
  refine vk_getf hx hb hO hS hown (hts (.fieldLink RJx29ce0 7 "java/lang/Enum" "ordinal" "I") (by decide +kernel)) (fun _ h9 => h9) dJx29ce0_ordinal_8abf5_1 ?_
  exact W.iret (v := o) hx hb hr (fun t ht hW => ⟨_, rfl, rfl, ht⟩) (fun _ h => by cases h) dJx29ce0_ordinal_8abf5_4
theorem run_weak {p : Program} {l : Launch} {e : Env} {R : Room} {s : State} {m : MethodId} {args : Array Value} {below : List Frame} {meth : Method} {c : Code} {H : Heap} {locs : List Loc} {cells slots mc ms : Nat} {g : JFrame} {rest : List Value} {Qa : State → Outcome → State → Prop} {free : Addr → Prop} (h : va_Run p l e R s m args below meth c H locs cells slots mc ms g rest Qa free) : CallRun p l e R s m args below meth c H locs cells slots mc ms g rest Qa free := fun T hT X => by
  obtain ⟨v, st₀, t, T', L, a1, a2, a3, a4, -, a6, a7⟩ := h T hT X
  exact ⟨v, st₀, t, T', L, a1, a2, a3, a4, a6, a7⟩

def fX1_refusalIn (u : HS) (c : Nat) (x y : Int32) : Int32 := match c with
  | 0 => fX3_refusalOfGuest u x y
  | 1 => fX3_refusalOfHat u x y
  | 2 => fX3_refusalWithoutHat u x
  | 3 => fX3_refusalWithoutHat u x
  | 4 => fX3_refusalOfCoat u x y
  | 5 => fX3_refusalWithoutCoat u x
  | 6 => fX3_refusalOfContest u x y
  | 7 => fX3_refusalOfPass u x
  | 8 => fX3_refusalOfSweep u x
  | _ => fX3_refusalOfFeather u x

def fX1_carryOutIn (u : HS) (c : Nat) (x y : Int32) : HS := match c with
  | 0 => (fX3_welcome u x y).2
  | 1 => (fX3_putHat u x y).2
  | 2 => (fX3_giveChairsBack u x).2
  | 3 => (fX3_startIdleTimeAgain u x).2
  | 4 => (fX3_putCoat u x y).2
  | 5 => (fX3_pullCoat u x).2
  | 6 => (fX3_fightFor u x y).2
  | 7 => (fX3_letPass u x).2
  | 8 => (fX3_sweepHats u x).2
  | _ => (fX3_gainFeather u x).2

theorem ri_0 (u : HS) (x y : Int32) : fX1_refusalIn u 0 x y = fX3_refusalOfGuest u x y := by unfold fX1_refusalIn; rfl
theorem ri_1 (u : HS) (x y : Int32) : fX1_refusalIn u 1 x y = fX3_refusalOfHat u x y := by unfold fX1_refusalIn; rfl
theorem ri_2 (u : HS) (x y : Int32) : fX1_refusalIn u 2 x y = fX3_refusalWithoutHat u x := by unfold fX1_refusalIn; rfl
theorem ri_3 (u : HS) (x y : Int32) : fX1_refusalIn u 3 x y = fX3_refusalWithoutHat u x := by unfold fX1_refusalIn; rfl
theorem ri_4 (u : HS) (x y : Int32) : fX1_refusalIn u 4 x y = fX3_refusalOfCoat u x y := by unfold fX1_refusalIn; rfl
theorem ri_5 (u : HS) (x y : Int32) : fX1_refusalIn u 5 x y = fX3_refusalWithoutCoat u x := by unfold fX1_refusalIn; rfl
theorem ri_6 (u : HS) (x y : Int32) : fX1_refusalIn u 6 x y = fX3_refusalOfContest u x y := by unfold fX1_refusalIn; rfl
theorem ri_7 (u : HS) (x y : Int32) : fX1_refusalIn u 7 x y = fX3_refusalOfPass u x := by unfold fX1_refusalIn; rfl
theorem ri_8 (u : HS) (x y : Int32) : fX1_refusalIn u 8 x y = fX3_refusalOfSweep u x := by unfold fX1_refusalIn; rfl
theorem ri_9 (u : HS) (x y : Int32) : fX1_refusalIn u 9 x y = fX3_refusalOfFeather u x := by unfold fX1_refusalIn; rfl
theorem cout_0 (u : HS) (x y : Int32) : fX1_carryOutIn u 0 x y = (fX3_welcome u x y).2 := by unfold fX1_carryOutIn; rfl
theorem cout_1 (u : HS) (x y : Int32) : fX1_carryOutIn u 1 x y = (fX3_putHat u x y).2 := by unfold fX1_carryOutIn; rfl
theorem cout_2 (u : HS) (x y : Int32) : fX1_carryOutIn u 2 x y = (fX3_giveChairsBack u x).2 := by unfold fX1_carryOutIn; rfl
theorem cout_3 (u : HS) (x y : Int32) : fX1_carryOutIn u 3 x y = (fX3_startIdleTimeAgain u x).2 := by unfold fX1_carryOutIn; rfl
theorem cout_4 (u : HS) (x y : Int32) : fX1_carryOutIn u 4 x y = (fX3_putCoat u x y).2 := by unfold fX1_carryOutIn; rfl
theorem cout_5 (u : HS) (x y : Int32) : fX1_carryOutIn u 5 x y = (fX3_pullCoat u x).2 := by unfold fX1_carryOutIn; rfl
theorem cout_6 (u : HS) (x y : Int32) : fX1_carryOutIn u 6 x y = (fX3_fightFor u x y).2 := by unfold fX1_carryOutIn; rfl
theorem cout_7 (u : HS) (x y : Int32) : fX1_carryOutIn u 7 x y = (fX3_letPass u x).2 := by unfold fX1_carryOutIn; rfl
theorem cout_8 (u : HS) (x y : Int32) : fX1_carryOutIn u 8 x y = (fX3_sweepHats u x).2 := by unfold fX1_carryOutIn; rfl
theorem cout_9 (u : HS) (x y : Int32) : fX1_carryOutIn u 9 x y = (fX3_gainFeather u x).2 := by unfold fX1_carryOutIn; rfl
set_option maxHeartbeats 4000000 in
set_option maxRecDepth 100000 in
theorem kX1_refusalIn (l : Launch) (D : va_G) (ca : Nat → ClassId) (en ks vs : Nat → Nat) (a : Nat → Nat) (u : HS) (c : Nat) (x y : Int32) (hc : c < 10) (hgs : h9 u ≤ 8) : Met l yX1_refusalIn wsX1_refusalIn ({ frames := 2, cells := 0, slots := 0, locals := 47 }) (RGPc D ca (KX en ks vs) (HW ca a u) [.ref (en c), .ref (a 8), .int x, .int y]) (vp_Si (fun r => r = fX1_refusalIn u c x y)) 0 0 (fun _ => False) := by
  refine Met.ofW (cc := cX1_refusalIn) (maxL := 4) (ret := (some .int)) (by decide) rfl ?_
  intro p e s m args below meth cd s₁ B hml hv
  obtain ⟨rfl, hP, hK, hX⟩ := hv
  have hx := B.exec
  have hb := B.bytes
  have hr := B.returns
  have hts := atoms_spec (ws := wsX1_refusalIn) B.pre
  have hown : s.vm.findClass RX1 = some m.cls := findClass_of_methodNamed B.named
  have hlocks := B.notSynchronized
  have hS : va_S FF s.heap s.heap [] := va_S.rf
  refine W_entry (Nat.le_of_ble_eq_true rfl) (fun ls hl => ?_)
  have hl : lv_has ls 4 [(0, .ref (en c)), (1, .ref (a 8)), (2, .int x), (3, .int y)] := hl
  obtain ⟨tS, hZS, hTS⟩ := hX.2.2.2.2.1
  have hcs : c = 0 ∨ c = 1 ∨ c = 2 ∨ c = 3 ∨ c = 4 ∨ c = 5 ∨ c = 6 ∨ c = 7 ∨ c = 8 ∨ c = 9 := by omega
  rcases hcs with rfl | rfl | rfl | rfl | rfl | rfl | rfl | rfl | rfl | rfl
  · refine va_gets hx hb hZS hS hown (hts (.fieldLink RX1 68 "HatReservations$1" "$SwitchMap$HatReservations$Command" "[I") (by decide +kernel)) (fun _ h9 => h9) dX1_refusalIn_0 ?_
    refine lv_aload_n hx hb dX1_refusalIn_3 rfl (lv_at hl 0 rfl) ?_
    have hO := (hX.2.1.1 0 (by decide)).2.2 _ (List.mem_cons_self)
    refine vp_callSi (run_weak (va_runU (As := []) (rest := [.ref tS]) ⟨hx, hb, hml, hown, hts⟩ (kJx29ce0_ordinal_8abf5 l (en 0) (kOR.getD 0 0)) (va_cwU 0 hts gX1_refusalIn_Jx29ce0_ordinal_8abf5_u74X1 rfl rfl rfl rfl (by decide +kernel) ⟨Nat.le_of_ble_eq_true rfl, Nat.le_of_ble_eq_true rfl⟩) ⟨OPc_blind, va_Orecv (hX.2.1.1 0 (by decide)).2.1 hS, fun U hU hW => ⟨rfl, by show va_OF _ _ _ _ _ _ U U.heap; rw [hU]; exact ((hO.kept hS.2.1).narrow (fun _ h => h.elim)).moved hW.alike⟩⟩ rfl rfl hl.1 rfl (lv_room (Nat.le_of_ble_eq_true rfl)) dX1_refusalIn_4 ⟨Nat.zero_le _, Nat.zero_le _⟩)) (fun r hr9 => ?_)
    cases hr9
    refine va_ti hx hb hTS hS (i := kOR.getD 0 0) (show vp_in (nI 0) 10 from vp_in_nI (by decide) (by decide)) (v := .int 1) (congrArg Value.int (by decide)) dX1_refusalIn_7 ?_
    refine lv_tableIn (x := 1) (off := 52) (tgt := 60) hx hb dX1_refusalIn_8 (by decide) (by decide) (by decide) (by decide) ?_
    refine lv_aload_n hx hb dX1_refusalIn_60 rfl (lv_at hl 1 rfl) ?_
    refine lv_iload_n hx hb dX1_refusalIn_61 rfl (lv_at hl 2 rfl) ?_
    refine lv_iload_n hx hb dX1_refusalIn_62 rfl (lv_at hl 3 rfl) ?_
    refine hcRi (As := [.int x, .int y]) (rest := []) 0 4 ⟨hx, hb, hml, hown, hts⟩ (kX3_refusalOfGuest l D ca a u x y ) (cwV 2 hts gX1_refusalIn_X3_refusalOfGuest rfl rfl rfl (by decide +kernel) ⟨Nat.le_of_ble_eq_true rfl, Nat.le_of_ble_eq_true rfl⟩) hK hP rfl rfl rfl hl.1 rfl (Nat.le_of_ble_eq_true rfl) ⟨Nat.zero_le _, Nat.zero_le _⟩ dX1_refusalIn_63 ?_
    exact W.iret (v := fX3_refusalOfGuest u x y) hx hb hr (fun t ht hW => ⟨_, rfl, (ri_0 u x y).symm, ht⟩) (fun _ h => by cases h) dX1_refusalIn_66
  · refine va_gets hx hb hZS hS hown (hts (.fieldLink RX1 68 "HatReservations$1" "$SwitchMap$HatReservations$Command" "[I") (by decide +kernel)) (fun _ h9 => h9) dX1_refusalIn_0 ?_
    refine lv_aload_n hx hb dX1_refusalIn_3 rfl (lv_at hl 0 rfl) ?_
    have hO := (hX.2.1.1 1 (by decide)).2.2 _ (List.mem_cons_self)
    refine vp_callSi (run_weak (va_runU (As := []) (rest := [.ref tS]) ⟨hx, hb, hml, hown, hts⟩ (kJx29ce0_ordinal_8abf5 l (en 1) (kOR.getD 1 0)) (va_cwU 0 hts gX1_refusalIn_Jx29ce0_ordinal_8abf5_u74X1 rfl rfl rfl rfl (by decide +kernel) ⟨Nat.le_of_ble_eq_true rfl, Nat.le_of_ble_eq_true rfl⟩) ⟨OPc_blind, va_Orecv (hX.2.1.1 1 (by decide)).2.1 hS, fun U hU hW => ⟨rfl, by show va_OF _ _ _ _ _ _ U U.heap; rw [hU]; exact ((hO.kept hS.2.1).narrow (fun _ h => h.elim)).moved hW.alike⟩⟩ rfl rfl hl.1 rfl (lv_room (Nat.le_of_ble_eq_true rfl)) dX1_refusalIn_4 ⟨Nat.zero_le _, Nat.zero_le _⟩)) (fun r hr9 => ?_)
    cases hr9
    refine va_ti hx hb hTS hS (i := kOR.getD 1 0) (show vp_in (nI 1) 10 from vp_in_nI (by decide) (by decide)) (v := .int 2) (congrArg Value.int (by decide)) dX1_refusalIn_7 ?_
    refine lv_tableIn (x := 2) (off := 59) (tgt := 67) hx hb dX1_refusalIn_8 (by decide) (by decide) (by decide) (by decide) ?_
    refine lv_aload_n hx hb dX1_refusalIn_67 rfl (lv_at hl 1 rfl) ?_
    refine lv_iload_n hx hb dX1_refusalIn_68 rfl (lv_at hl 2 rfl) ?_
    refine lv_iload_n hx hb dX1_refusalIn_69 rfl (lv_at hl 3 rfl) ?_
    refine hcRi (As := [.int x, .int y]) (rest := []) 0 4 ⟨hx, hb, hml, hown, hts⟩ (kX3_refusalOfHat l D ca a u x y hgs) (cwV 2 hts gX1_refusalIn_X3_refusalOfHat rfl rfl rfl (by decide +kernel) ⟨Nat.le_of_ble_eq_true rfl, Nat.le_of_ble_eq_true rfl⟩) hK hP rfl rfl rfl hl.1 rfl (Nat.le_of_ble_eq_true rfl) ⟨Nat.zero_le _, Nat.zero_le _⟩ dX1_refusalIn_70 ?_
    exact W.iret (v := fX3_refusalOfHat u x y) hx hb hr (fun t ht hW => ⟨_, rfl, (ri_1 u x y).symm, ht⟩) (fun _ h => by cases h) dX1_refusalIn_73
  · refine va_gets hx hb hZS hS hown (hts (.fieldLink RX1 68 "HatReservations$1" "$SwitchMap$HatReservations$Command" "[I") (by decide +kernel)) (fun _ h9 => h9) dX1_refusalIn_0 ?_
    refine lv_aload_n hx hb dX1_refusalIn_3 rfl (lv_at hl 0 rfl) ?_
    have hO := (hX.2.1.1 2 (by decide)).2.2 _ (List.mem_cons_self)
    refine vp_callSi (run_weak (va_runU (As := []) (rest := [.ref tS]) ⟨hx, hb, hml, hown, hts⟩ (kJx29ce0_ordinal_8abf5 l (en 2) (kOR.getD 2 0)) (va_cwU 0 hts gX1_refusalIn_Jx29ce0_ordinal_8abf5_u74X1 rfl rfl rfl rfl (by decide +kernel) ⟨Nat.le_of_ble_eq_true rfl, Nat.le_of_ble_eq_true rfl⟩) ⟨OPc_blind, va_Orecv (hX.2.1.1 2 (by decide)).2.1 hS, fun U hU hW => ⟨rfl, by show va_OF _ _ _ _ _ _ U U.heap; rw [hU]; exact ((hO.kept hS.2.1).narrow (fun _ h => h.elim)).moved hW.alike⟩⟩ rfl rfl hl.1 rfl (lv_room (Nat.le_of_ble_eq_true rfl)) dX1_refusalIn_4 ⟨Nat.zero_le _, Nat.zero_le _⟩)) (fun r hr9 => ?_)
    cases hr9
    refine va_ti hx hb hTS hS (i := kOR.getD 2 0) (show vp_in (nI 2) 10 from vp_in_nI (by decide) (by decide)) (v := .int 3) (congrArg Value.int (by decide)) dX1_refusalIn_7 ?_
    refine lv_tableIn (x := 3) (off := 66) (tgt := 74) hx hb dX1_refusalIn_8 (by decide) (by decide) (by decide) (by decide) ?_
    refine lv_aload_n hx hb dX1_refusalIn_74 rfl (lv_at hl 1 rfl) ?_
    refine lv_iload_n hx hb dX1_refusalIn_75 rfl (lv_at hl 2 rfl) ?_
    refine hcRi (As := [.int x]) (rest := []) 0 4 ⟨hx, hb, hml, hown, hts⟩ (kX3_refusalWithoutHat l D ca a u x hgs) (cwV 1 hts gX1_refusalIn_X3_refusalWithoutHat rfl rfl rfl (by decide +kernel) ⟨Nat.le_of_ble_eq_true rfl, Nat.le_of_ble_eq_true rfl⟩) hK hP rfl rfl rfl hl.1 rfl (Nat.le_of_ble_eq_true rfl) ⟨Nat.zero_le _, Nat.zero_le _⟩ dX1_refusalIn_76 ?_
    exact W.iret (v := fX3_refusalWithoutHat u x) hx hb hr (fun t ht hW => ⟨_, rfl, (ri_2 u x y).symm, ht⟩) (fun _ h => by cases h) dX1_refusalIn_79
  · refine va_gets hx hb hZS hS hown (hts (.fieldLink RX1 68 "HatReservations$1" "$SwitchMap$HatReservations$Command" "[I") (by decide +kernel)) (fun _ h9 => h9) dX1_refusalIn_0 ?_
    refine lv_aload_n hx hb dX1_refusalIn_3 rfl (lv_at hl 0 rfl) ?_
    have hO := (hX.2.1.1 3 (by decide)).2.2 _ (List.mem_cons_self)
    refine vp_callSi (run_weak (va_runU (As := []) (rest := [.ref tS]) ⟨hx, hb, hml, hown, hts⟩ (kJx29ce0_ordinal_8abf5 l (en 3) (kOR.getD 3 0)) (va_cwU 0 hts gX1_refusalIn_Jx29ce0_ordinal_8abf5_u74X1 rfl rfl rfl rfl (by decide +kernel) ⟨Nat.le_of_ble_eq_true rfl, Nat.le_of_ble_eq_true rfl⟩) ⟨OPc_blind, va_Orecv (hX.2.1.1 3 (by decide)).2.1 hS, fun U hU hW => ⟨rfl, by show va_OF _ _ _ _ _ _ U U.heap; rw [hU]; exact ((hO.kept hS.2.1).narrow (fun _ h => h.elim)).moved hW.alike⟩⟩ rfl rfl hl.1 rfl (lv_room (Nat.le_of_ble_eq_true rfl)) dX1_refusalIn_4 ⟨Nat.zero_le _, Nat.zero_le _⟩)) (fun r hr9 => ?_)
    cases hr9
    refine va_ti hx hb hTS hS (i := kOR.getD 3 0) (show vp_in (nI 3) 10 from vp_in_nI (by decide) (by decide)) (v := .int 4) (congrArg Value.int (by decide)) dX1_refusalIn_7 ?_
    refine lv_tableIn (x := 4) (off := 66) (tgt := 74) hx hb dX1_refusalIn_8 (by decide) (by decide) (by decide) (by decide) ?_
    refine lv_aload_n hx hb dX1_refusalIn_74 rfl (lv_at hl 1 rfl) ?_
    refine lv_iload_n hx hb dX1_refusalIn_75 rfl (lv_at hl 2 rfl) ?_
    refine hcRi (As := [.int x]) (rest := []) 0 4 ⟨hx, hb, hml, hown, hts⟩ (kX3_refusalWithoutHat l D ca a u x hgs) (cwV 1 hts gX1_refusalIn_X3_refusalWithoutHat rfl rfl rfl (by decide +kernel) ⟨Nat.le_of_ble_eq_true rfl, Nat.le_of_ble_eq_true rfl⟩) hK hP rfl rfl rfl hl.1 rfl (Nat.le_of_ble_eq_true rfl) ⟨Nat.zero_le _, Nat.zero_le _⟩ dX1_refusalIn_76 ?_
    exact W.iret (v := fX3_refusalWithoutHat u x) hx hb hr (fun t ht hW => ⟨_, rfl, (ri_3 u x y).symm, ht⟩) (fun _ h => by cases h) dX1_refusalIn_79
  · refine va_gets hx hb hZS hS hown (hts (.fieldLink RX1 68 "HatReservations$1" "$SwitchMap$HatReservations$Command" "[I") (by decide +kernel)) (fun _ h9 => h9) dX1_refusalIn_0 ?_
    refine lv_aload_n hx hb dX1_refusalIn_3 rfl (lv_at hl 0 rfl) ?_
    have hO := (hX.2.1.1 4 (by decide)).2.2 _ (List.mem_cons_self)
    refine vp_callSi (run_weak (va_runU (As := []) (rest := [.ref tS]) ⟨hx, hb, hml, hown, hts⟩ (kJx29ce0_ordinal_8abf5 l (en 4) (kOR.getD 4 0)) (va_cwU 0 hts gX1_refusalIn_Jx29ce0_ordinal_8abf5_u74X1 rfl rfl rfl rfl (by decide +kernel) ⟨Nat.le_of_ble_eq_true rfl, Nat.le_of_ble_eq_true rfl⟩) ⟨OPc_blind, va_Orecv (hX.2.1.1 4 (by decide)).2.1 hS, fun U hU hW => ⟨rfl, by show va_OF _ _ _ _ _ _ U U.heap; rw [hU]; exact ((hO.kept hS.2.1).narrow (fun _ h => h.elim)).moved hW.alike⟩⟩ rfl rfl hl.1 rfl (lv_room (Nat.le_of_ble_eq_true rfl)) dX1_refusalIn_4 ⟨Nat.zero_le _, Nat.zero_le _⟩)) (fun r hr9 => ?_)
    cases hr9
    refine va_ti hx hb hTS hS (i := kOR.getD 4 0) (show vp_in (nI 4) 10 from vp_in_nI (by decide) (by decide)) (v := .int 5) (congrArg Value.int (by decide)) dX1_refusalIn_7 ?_
    refine lv_tableIn (x := 5) (off := 72) (tgt := 80) hx hb dX1_refusalIn_8 (by decide) (by decide) (by decide) (by decide) ?_
    refine lv_aload_n hx hb dX1_refusalIn_80 rfl (lv_at hl 1 rfl) ?_
    refine lv_iload_n hx hb dX1_refusalIn_81 rfl (lv_at hl 2 rfl) ?_
    refine lv_iload_n hx hb dX1_refusalIn_82 rfl (lv_at hl 3 rfl) ?_
    refine hcRi (As := [.int x, .int y]) (rest := []) 0 4 ⟨hx, hb, hml, hown, hts⟩ (kX3_refusalOfCoat l D ca a u x y hgs) (cwV 2 hts gX1_refusalIn_X3_refusalOfCoat rfl rfl rfl (by decide +kernel) ⟨Nat.le_of_ble_eq_true rfl, Nat.le_of_ble_eq_true rfl⟩) hK hP rfl rfl rfl hl.1 rfl (Nat.le_of_ble_eq_true rfl) ⟨Nat.zero_le _, Nat.zero_le _⟩ dX1_refusalIn_83 ?_
    exact W.iret (v := fX3_refusalOfCoat u x y) hx hb hr (fun t ht hW => ⟨_, rfl, (ri_4 u x y).symm, ht⟩) (fun _ h => by cases h) dX1_refusalIn_86
  · refine va_gets hx hb hZS hS hown (hts (.fieldLink RX1 68 "HatReservations$1" "$SwitchMap$HatReservations$Command" "[I") (by decide +kernel)) (fun _ h9 => h9) dX1_refusalIn_0 ?_
    refine lv_aload_n hx hb dX1_refusalIn_3 rfl (lv_at hl 0 rfl) ?_
    have hO := (hX.2.1.1 5 (by decide)).2.2 _ (List.mem_cons_self)
    refine vp_callSi (run_weak (va_runU (As := []) (rest := [.ref tS]) ⟨hx, hb, hml, hown, hts⟩ (kJx29ce0_ordinal_8abf5 l (en 5) (kOR.getD 5 0)) (va_cwU 0 hts gX1_refusalIn_Jx29ce0_ordinal_8abf5_u74X1 rfl rfl rfl rfl (by decide +kernel) ⟨Nat.le_of_ble_eq_true rfl, Nat.le_of_ble_eq_true rfl⟩) ⟨OPc_blind, va_Orecv (hX.2.1.1 5 (by decide)).2.1 hS, fun U hU hW => ⟨rfl, by show va_OF _ _ _ _ _ _ U U.heap; rw [hU]; exact ((hO.kept hS.2.1).narrow (fun _ h => h.elim)).moved hW.alike⟩⟩ rfl rfl hl.1 rfl (lv_room (Nat.le_of_ble_eq_true rfl)) dX1_refusalIn_4 ⟨Nat.zero_le _, Nat.zero_le _⟩)) (fun r hr9 => ?_)
    cases hr9
    refine va_ti hx hb hTS hS (i := kOR.getD 5 0) (show vp_in (nI 5) 10 from vp_in_nI (by decide) (by decide)) (v := .int 6) (congrArg Value.int (by decide)) dX1_refusalIn_7 ?_
    refine lv_tableIn (x := 6) (off := 79) (tgt := 87) hx hb dX1_refusalIn_8 (by decide) (by decide) (by decide) (by decide) ?_
    refine lv_aload_n hx hb dX1_refusalIn_87 rfl (lv_at hl 1 rfl) ?_
    refine lv_iload_n hx hb dX1_refusalIn_88 rfl (lv_at hl 2 rfl) ?_
    refine hcRi (As := [.int x]) (rest := []) 0 4 ⟨hx, hb, hml, hown, hts⟩ (kX3_refusalWithoutCoat l D ca a u x hgs) (cwV 1 hts gX1_refusalIn_X3_refusalWithoutCoat rfl rfl rfl (by decide +kernel) ⟨Nat.le_of_ble_eq_true rfl, Nat.le_of_ble_eq_true rfl⟩) hK hP rfl rfl rfl hl.1 rfl (Nat.le_of_ble_eq_true rfl) ⟨Nat.zero_le _, Nat.zero_le _⟩ dX1_refusalIn_89 ?_
    exact W.iret (v := fX3_refusalWithoutCoat u x) hx hb hr (fun t ht hW => ⟨_, rfl, (ri_5 u x y).symm, ht⟩) (fun _ h => by cases h) dX1_refusalIn_92
  · refine va_gets hx hb hZS hS hown (hts (.fieldLink RX1 68 "HatReservations$1" "$SwitchMap$HatReservations$Command" "[I") (by decide +kernel)) (fun _ h9 => h9) dX1_refusalIn_0 ?_
    refine lv_aload_n hx hb dX1_refusalIn_3 rfl (lv_at hl 0 rfl) ?_
    have hO := (hX.2.1.1 6 (by decide)).2.2 _ (List.mem_cons_self)
    refine vp_callSi (run_weak (va_runU (As := []) (rest := [.ref tS]) ⟨hx, hb, hml, hown, hts⟩ (kJx29ce0_ordinal_8abf5 l (en 6) (kOR.getD 6 0)) (va_cwU 0 hts gX1_refusalIn_Jx29ce0_ordinal_8abf5_u74X1 rfl rfl rfl rfl (by decide +kernel) ⟨Nat.le_of_ble_eq_true rfl, Nat.le_of_ble_eq_true rfl⟩) ⟨OPc_blind, va_Orecv (hX.2.1.1 6 (by decide)).2.1 hS, fun U hU hW => ⟨rfl, by show va_OF _ _ _ _ _ _ U U.heap; rw [hU]; exact ((hO.kept hS.2.1).narrow (fun _ h => h.elim)).moved hW.alike⟩⟩ rfl rfl hl.1 rfl (lv_room (Nat.le_of_ble_eq_true rfl)) dX1_refusalIn_4 ⟨Nat.zero_le _, Nat.zero_le _⟩)) (fun r hr9 => ?_)
    cases hr9
    refine va_ti hx hb hTS hS (i := kOR.getD 6 0) (show vp_in (nI 6) 10 from vp_in_nI (by decide) (by decide)) (v := .int 7) (congrArg Value.int (by decide)) dX1_refusalIn_7 ?_
    refine lv_tableIn (x := 7) (off := 85) (tgt := 93) hx hb dX1_refusalIn_8 (by decide) (by decide) (by decide) (by decide) ?_
    refine lv_aload_n hx hb dX1_refusalIn_93 rfl (lv_at hl 1 rfl) ?_
    refine lv_iload_n hx hb dX1_refusalIn_94 rfl (lv_at hl 2 rfl) ?_
    refine lv_iload_n hx hb dX1_refusalIn_95 rfl (lv_at hl 3 rfl) ?_
    refine hcRi (As := [.int x, .int y]) (rest := []) 0 4 ⟨hx, hb, hml, hown, hts⟩ (kX3_refusalOfContest l D ca a u x y hgs) (cwV 2 hts gX1_refusalIn_X3_refusalOfContest rfl rfl rfl (by decide +kernel) ⟨Nat.le_of_ble_eq_true rfl, Nat.le_of_ble_eq_true rfl⟩) hK hP rfl rfl rfl hl.1 rfl (Nat.le_of_ble_eq_true rfl) ⟨Nat.zero_le _, Nat.zero_le _⟩ dX1_refusalIn_96 ?_
    exact W.iret (v := fX3_refusalOfContest u x y) hx hb hr (fun t ht hW => ⟨_, rfl, (ri_6 u x y).symm, ht⟩) (fun _ h => by cases h) dX1_refusalIn_99
  · refine va_gets hx hb hZS hS hown (hts (.fieldLink RX1 68 "HatReservations$1" "$SwitchMap$HatReservations$Command" "[I") (by decide +kernel)) (fun _ h9 => h9) dX1_refusalIn_0 ?_
    refine lv_aload_n hx hb dX1_refusalIn_3 rfl (lv_at hl 0 rfl) ?_
    have hO := (hX.2.1.1 7 (by decide)).2.2 _ (List.mem_cons_self)
    refine vp_callSi (run_weak (va_runU (As := []) (rest := [.ref tS]) ⟨hx, hb, hml, hown, hts⟩ (kJx29ce0_ordinal_8abf5 l (en 7) (kOR.getD 7 0)) (va_cwU 0 hts gX1_refusalIn_Jx29ce0_ordinal_8abf5_u74X1 rfl rfl rfl rfl (by decide +kernel) ⟨Nat.le_of_ble_eq_true rfl, Nat.le_of_ble_eq_true rfl⟩) ⟨OPc_blind, va_Orecv (hX.2.1.1 7 (by decide)).2.1 hS, fun U hU hW => ⟨rfl, by show va_OF _ _ _ _ _ _ U U.heap; rw [hU]; exact ((hO.kept hS.2.1).narrow (fun _ h => h.elim)).moved hW.alike⟩⟩ rfl rfl hl.1 rfl (lv_room (Nat.le_of_ble_eq_true rfl)) dX1_refusalIn_4 ⟨Nat.zero_le _, Nat.zero_le _⟩)) (fun r hr9 => ?_)
    cases hr9
    refine va_ti hx hb hTS hS (i := kOR.getD 7 0) (show vp_in (nI 7) 10 from vp_in_nI (by decide) (by decide)) (v := .int 8) (congrArg Value.int (by decide)) dX1_refusalIn_7 ?_
    refine lv_tableIn (x := 8) (off := 92) (tgt := 100) hx hb dX1_refusalIn_8 (by decide) (by decide) (by decide) (by decide) ?_
    refine lv_aload_n hx hb dX1_refusalIn_100 rfl (lv_at hl 1 rfl) ?_
    refine lv_iload_n hx hb dX1_refusalIn_101 rfl (lv_at hl 2 rfl) ?_
    refine hcRi (As := [.int x]) (rest := []) 0 4 ⟨hx, hb, hml, hown, hts⟩ (kX3_refusalOfPass l D ca a u x ) (cwV 1 hts gX1_refusalIn_X3_refusalOfPass rfl rfl rfl (by decide +kernel) ⟨Nat.le_of_ble_eq_true rfl, Nat.le_of_ble_eq_true rfl⟩) hK hP rfl rfl rfl hl.1 rfl (Nat.le_of_ble_eq_true rfl) ⟨Nat.zero_le _, Nat.zero_le _⟩ dX1_refusalIn_102 ?_
    exact W.iret (v := fX3_refusalOfPass u x) hx hb hr (fun t ht hW => ⟨_, rfl, (ri_7 u x y).symm, ht⟩) (fun _ h => by cases h) dX1_refusalIn_105
  · refine va_gets hx hb hZS hS hown (hts (.fieldLink RX1 68 "HatReservations$1" "$SwitchMap$HatReservations$Command" "[I") (by decide +kernel)) (fun _ h9 => h9) dX1_refusalIn_0 ?_
    refine lv_aload_n hx hb dX1_refusalIn_3 rfl (lv_at hl 0 rfl) ?_
    have hO := (hX.2.1.1 8 (by decide)).2.2 _ (List.mem_cons_self)
    refine vp_callSi (run_weak (va_runU (As := []) (rest := [.ref tS]) ⟨hx, hb, hml, hown, hts⟩ (kJx29ce0_ordinal_8abf5 l (en 8) (kOR.getD 8 0)) (va_cwU 0 hts gX1_refusalIn_Jx29ce0_ordinal_8abf5_u74X1 rfl rfl rfl rfl (by decide +kernel) ⟨Nat.le_of_ble_eq_true rfl, Nat.le_of_ble_eq_true rfl⟩) ⟨OPc_blind, va_Orecv (hX.2.1.1 8 (by decide)).2.1 hS, fun U hU hW => ⟨rfl, by show va_OF _ _ _ _ _ _ U U.heap; rw [hU]; exact ((hO.kept hS.2.1).narrow (fun _ h => h.elim)).moved hW.alike⟩⟩ rfl rfl hl.1 rfl (lv_room (Nat.le_of_ble_eq_true rfl)) dX1_refusalIn_4 ⟨Nat.zero_le _, Nat.zero_le _⟩)) (fun r hr9 => ?_)
    cases hr9
    refine va_ti hx hb hTS hS (i := kOR.getD 8 0) (show vp_in (nI 8) 10 from vp_in_nI (by decide) (by decide)) (v := .int 9) (congrArg Value.int (by decide)) dX1_refusalIn_7 ?_
    refine lv_tableIn (x := 9) (off := 98) (tgt := 106) hx hb dX1_refusalIn_8 (by decide) (by decide) (by decide) (by decide) ?_
    refine lv_aload_n hx hb dX1_refusalIn_106 rfl (lv_at hl 1 rfl) ?_
    refine lv_iload_n hx hb dX1_refusalIn_107 rfl (lv_at hl 2 rfl) ?_
    refine hcRi (As := [.int x]) (rest := []) 0 4 ⟨hx, hb, hml, hown, hts⟩ (kX3_refusalOfSweep l D ca a u x ) (cwV 1 hts gX1_refusalIn_X3_refusalOfSweep rfl rfl rfl (by decide +kernel) ⟨Nat.le_of_ble_eq_true rfl, Nat.le_of_ble_eq_true rfl⟩) hK hP rfl rfl rfl hl.1 rfl (Nat.le_of_ble_eq_true rfl) ⟨Nat.zero_le _, Nat.zero_le _⟩ dX1_refusalIn_108 ?_
    exact W.iret (v := fX3_refusalOfSweep u x) hx hb hr (fun t ht hW => ⟨_, rfl, (ri_8 u x y).symm, ht⟩) (fun _ h => by cases h) dX1_refusalIn_111
  · refine va_gets hx hb hZS hS hown (hts (.fieldLink RX1 68 "HatReservations$1" "$SwitchMap$HatReservations$Command" "[I") (by decide +kernel)) (fun _ h9 => h9) dX1_refusalIn_0 ?_
    refine lv_aload_n hx hb dX1_refusalIn_3 rfl (lv_at hl 0 rfl) ?_
    have hO := (hX.2.1.1 9 (by decide)).2.2 _ (List.mem_cons_self)
    refine vp_callSi (run_weak (va_runU (As := []) (rest := [.ref tS]) ⟨hx, hb, hml, hown, hts⟩ (kJx29ce0_ordinal_8abf5 l (en 9) (kOR.getD 9 0)) (va_cwU 0 hts gX1_refusalIn_Jx29ce0_ordinal_8abf5_u74X1 rfl rfl rfl rfl (by decide +kernel) ⟨Nat.le_of_ble_eq_true rfl, Nat.le_of_ble_eq_true rfl⟩) ⟨OPc_blind, va_Orecv (hX.2.1.1 9 (by decide)).2.1 hS, fun U hU hW => ⟨rfl, by show va_OF _ _ _ _ _ _ U U.heap; rw [hU]; exact ((hO.kept hS.2.1).narrow (fun _ h => h.elim)).moved hW.alike⟩⟩ rfl rfl hl.1 rfl (lv_room (Nat.le_of_ble_eq_true rfl)) dX1_refusalIn_4 ⟨Nat.zero_le _, Nat.zero_le _⟩)) (fun r hr9 => ?_)
    cases hr9
    refine va_ti hx hb hTS hS (i := kOR.getD 9 0) (show vp_in (nI 9) 10 from vp_in_nI (by decide) (by decide)) (v := .int 0) (congrArg Value.int (by decide)) dX1_refusalIn_7 ?_
    refine lv_tableOut (x := 0) (tgt := 112) hx hb dX1_refusalIn_8 (by decide) (by decide) ?_
    refine lv_aload_n hx hb dX1_refusalIn_112 rfl (lv_at hl 1 rfl) ?_
    refine lv_iload_n hx hb dX1_refusalIn_113 rfl (lv_at hl 2 rfl) ?_
    refine hcRi (As := [.int x]) (rest := []) 0 4 ⟨hx, hb, hml, hown, hts⟩ (kX3_refusalOfFeather l D ca a u x hgs) (cwV 1 hts gX1_refusalIn_X3_refusalOfFeather rfl rfl rfl (by decide +kernel) ⟨Nat.le_of_ble_eq_true rfl, Nat.le_of_ble_eq_true rfl⟩) hK hP rfl rfl rfl hl.1 rfl (Nat.le_of_ble_eq_true rfl) ⟨Nat.zero_le _, Nat.zero_le _⟩ dX1_refusalIn_114 ?_
    exact W.iret (v := fX3_refusalOfFeather u x) hx hb hr (fun t ht hW => ⟨_, rfl, (ri_9 u x y).symm, ht⟩) (fun _ h => by cases h) dX1_refusalIn_117
set_option maxHeartbeats 4000000 in
set_option maxRecDepth 100000 in
theorem kX1_carryOutIn (l : Launch) (D : va_G) (ca : Nat → ClassId) (en ks vs : Nat → Nat) (a : Nat → Nat) (sz : Nat) (u : HS) (c : Nat) (x y : Int32) (hc : c < 10) (hi : HI u) (hok : fX1_refusalIn u c x y = 0) : Met l yX1_carryOutIn wsX1_carryOutIn ({ frames := 5, cells := 0, slots := 0, locals := 126 }) (MGPc D ca (KX en ks vs) sz (HW ca a u) [.ref (en c), .ref (a 8), .int x, .int y]) (va_Qv (fun v => v = fX1_carryOutIn u c x y) (MB D ca (va_A (HW ca a u) sz) (HW ca a)) (va_A (HW ca a u) sz)) 0 0 (va_A (HW ca a u) sz) := by
  refine Met.ofW (cc := cX1_carryOutIn) (maxL := 4) (ret := none) (by decide) rfl ?_
  intro p e s m args below meth cd s₁ B hml hv
  obtain ⟨rfl, hsz, hP, hK, hD0, hX⟩ := hv
  have hx := B.exec
  have hb := B.bytes
  have hr := B.returns
  have hts := atoms_spec (ws := wsX1_carryOutIn) B.pre
  have hown : s.vm.findClass RX1 = some m.cls := findClass_of_methodNamed B.named
  have hlocks := B.notSynchronized
  subst hsz
  have hD := hD0.self (sz := s.heap.size)
  generalize hAe : va_A (HW ca a u) s.heap.size = A at hD hX ⊢
  have hA : ∀ q : Nat, s.heap.size ≤ q → A q := fun q h => by rw [← hAe]; exact Or.inr h
  have hS : va_S A s.heap s.heap [] := va_S.rf
  refine W_entry (Nat.le_of_ble_eq_true rfl) (fun ls hl => ?_)
  have hl : lv_has ls 4 [(0, .ref (en c)), (1, .ref (a 8)), (2, .int x), (3, .int y)] := hl
  obtain ⟨tS, hZS, hTS⟩ := hX.2.2.2.2.1
  have hcs : c = 0 ∨ c = 1 ∨ c = 2 ∨ c = 3 ∨ c = 4 ∨ c = 5 ∨ c = 6 ∨ c = 7 ∨ c = 8 ∨ c = 9 := by omega
  rcases hcs with rfl | rfl | rfl | rfl | rfl | rfl | rfl | rfl | rfl | rfl
  · refine va_gets hx hb hZS hS hown (hts (.fieldLink RX1 68 "HatReservations$1" "$SwitchMap$HatReservations$Command" "[I") (by decide +kernel)) (fun _ h9 => h9) dX1_carryOutIn_0 ?_
    refine lv_aload_n hx hb dX1_carryOutIn_3 rfl (lv_at hl 0 rfl) ?_
    have hO := (hX.2.1.1 0 (by decide)).2.2 _ (List.mem_cons_self)
    refine vp_callSi (run_weak (va_runU (As := []) (rest := [.ref tS]) ⟨hx, hb, hml, hown, hts⟩ (kJx29ce0_ordinal_8abf5 l (en 0) (kOR.getD 0 0)) (va_cwU 0 hts gX1_carryOutIn_Jx29ce0_ordinal_8abf5_u74X1 rfl rfl rfl rfl (by decide +kernel) ⟨Nat.le_of_ble_eq_true rfl, Nat.le_of_ble_eq_true rfl⟩) ⟨OPc_blind, va_Orecv (hX.2.1.1 0 (by decide)).2.1 hS, fun U hU hW => ⟨rfl, by show va_OF _ _ _ _ _ _ U U.heap; rw [hU]; exact ((hO.kept hS.2.1).narrow (fun _ h => h.elim)).moved hW.alike⟩⟩ rfl rfl hl.1 rfl (lv_room (Nat.le_of_ble_eq_true rfl)) dX1_carryOutIn_4 ⟨Nat.zero_le _, Nat.zero_le _⟩)) (fun r hr9 => ?_)
    cases hr9
    refine va_ti hx hb hTS hS (i := kOR.getD 0 0) (show vp_in (nI 0) 10 from vp_in_nI (by decide) (by decide)) (v := .int 1) (congrArg Value.int (by decide)) dX1_carryOutIn_7 ?_
    refine lv_tableIn (x := 1) (off := 52) (tgt := 60) hx hb dX1_carryOutIn_8 (by decide) (by decide) (by decide) (by decide) ?_
    have hok := (ri_0 u x y).symm.trans hok
    refine lv_aload_n hx hb dX1_carryOutIn_60 rfl (lv_at hl 1 rfl) ?_
    refine lv_iload_n hx hb dX1_carryOutIn_61 rfl (lv_at hl 2 rfl) ?_
    refine lv_iload_n hx hb dX1_carryOutIn_62 rfl (lv_at hl 3 rfl) ?_
    refine hcMi (As := [.int x, .int y]) (rest := []) (wr := []) (F := fX3_welcome u x y) 0 4 ⟨hx, hb, hml, hown, hts⟩ (kX3_welcome l D ca a _ u x y (guest_ok hi hok)) (cwV 2 hts gX1_carryOutIn_X3_welcome rfl rfl rfl (by decide +kernel) ⟨Nat.le_of_ble_eq_true rfl, Nat.le_of_ble_eq_true rfl⟩) hK hP hD hS hA (List.Perm.refl _) rfl rfl rfl hl.1 rfl (Nat.le_of_ble_eq_true rfl) ⟨Nat.zero_le _, Nat.zero_le _⟩ dX1_carryOutIn_63 (fun H locs hP hD hS => ?_)
    refine lv_pop hx hb dX1_carryOutIn_66 rfl ?_
    refine lv_goto (tgt := 151) hx hb dX1_carryOutIn_67 (by decide) ?_
    exact W.vret hx hb hr (fun t ht hW => ⟨⟨_, rfl, rfl, by rw [ht, cout_0]; exact hP, va_K.moved hW.alike hK, by rw [cout_0]; exact hD⟩, hS.F ht⟩) hS.2.2 dX1_carryOutIn_151
  · refine va_gets hx hb hZS hS hown (hts (.fieldLink RX1 68 "HatReservations$1" "$SwitchMap$HatReservations$Command" "[I") (by decide +kernel)) (fun _ h9 => h9) dX1_carryOutIn_0 ?_
    refine lv_aload_n hx hb dX1_carryOutIn_3 rfl (lv_at hl 0 rfl) ?_
    have hO := (hX.2.1.1 1 (by decide)).2.2 _ (List.mem_cons_self)
    refine vp_callSi (run_weak (va_runU (As := []) (rest := [.ref tS]) ⟨hx, hb, hml, hown, hts⟩ (kJx29ce0_ordinal_8abf5 l (en 1) (kOR.getD 1 0)) (va_cwU 0 hts gX1_carryOutIn_Jx29ce0_ordinal_8abf5_u74X1 rfl rfl rfl rfl (by decide +kernel) ⟨Nat.le_of_ble_eq_true rfl, Nat.le_of_ble_eq_true rfl⟩) ⟨OPc_blind, va_Orecv (hX.2.1.1 1 (by decide)).2.1 hS, fun U hU hW => ⟨rfl, by show va_OF _ _ _ _ _ _ U U.heap; rw [hU]; exact ((hO.kept hS.2.1).narrow (fun _ h => h.elim)).moved hW.alike⟩⟩ rfl rfl hl.1 rfl (lv_room (Nat.le_of_ble_eq_true rfl)) dX1_carryOutIn_4 ⟨Nat.zero_le _, Nat.zero_le _⟩)) (fun r hr9 => ?_)
    cases hr9
    refine va_ti hx hb hTS hS (i := kOR.getD 1 0) (show vp_in (nI 1) 10 from vp_in_nI (by decide) (by decide)) (v := .int 2) (congrArg Value.int (by decide)) dX1_carryOutIn_7 ?_
    refine lv_tableIn (x := 2) (off := 62) (tgt := 70) hx hb dX1_carryOutIn_8 (by decide) (by decide) (by decide) (by decide) ?_
    have hok := (ri_1 u x y).symm.trans hok
    refine lv_aload_n hx hb dX1_carryOutIn_70 rfl (lv_at hl 1 rfl) ?_
    refine lv_iload_n hx hb dX1_carryOutIn_71 rfl (lv_at hl 2 rfl) ?_
    refine lv_iload_n hx hb dX1_carryOutIn_72 rfl (lv_at hl 3 rfl) ?_
    refine hcMi (As := [.int x, .int y]) (rest := []) (wr := []) (F := fX3_putHat u x y) 0 4 ⟨hx, hb, hml, hown, hts⟩ (kX3_putHat l D ca a _ u x y (hat_ok hi.2 hok).1 (hat_ok hi.2 hok).2) (cwV 2 hts gX1_carryOutIn_X3_putHat rfl rfl rfl (by decide +kernel) ⟨Nat.le_of_ble_eq_true rfl, Nat.le_of_ble_eq_true rfl⟩) hK hP hD hS hA (List.Perm.refl _) rfl rfl rfl hl.1 rfl (Nat.le_of_ble_eq_true rfl) ⟨Nat.zero_le _, Nat.zero_le _⟩ dX1_carryOutIn_73 (fun H locs hP hD hS => ?_)
    refine lv_pop hx hb dX1_carryOutIn_76 rfl ?_
    refine lv_goto (tgt := 151) hx hb dX1_carryOutIn_77 (by decide) ?_
    exact W.vret hx hb hr (fun t ht hW => ⟨⟨_, rfl, rfl, by rw [ht, cout_1]; exact hP, va_K.moved hW.alike hK, by rw [cout_1]; exact hD⟩, hS.F ht⟩) hS.2.2 dX1_carryOutIn_151
  · refine va_gets hx hb hZS hS hown (hts (.fieldLink RX1 68 "HatReservations$1" "$SwitchMap$HatReservations$Command" "[I") (by decide +kernel)) (fun _ h9 => h9) dX1_carryOutIn_0 ?_
    refine lv_aload_n hx hb dX1_carryOutIn_3 rfl (lv_at hl 0 rfl) ?_
    have hO := (hX.2.1.1 2 (by decide)).2.2 _ (List.mem_cons_self)
    refine vp_callSi (run_weak (va_runU (As := []) (rest := [.ref tS]) ⟨hx, hb, hml, hown, hts⟩ (kJx29ce0_ordinal_8abf5 l (en 2) (kOR.getD 2 0)) (va_cwU 0 hts gX1_carryOutIn_Jx29ce0_ordinal_8abf5_u74X1 rfl rfl rfl rfl (by decide +kernel) ⟨Nat.le_of_ble_eq_true rfl, Nat.le_of_ble_eq_true rfl⟩) ⟨OPc_blind, va_Orecv (hX.2.1.1 2 (by decide)).2.1 hS, fun U hU hW => ⟨rfl, by show va_OF _ _ _ _ _ _ U U.heap; rw [hU]; exact ((hO.kept hS.2.1).narrow (fun _ h => h.elim)).moved hW.alike⟩⟩ rfl rfl hl.1 rfl (lv_room (Nat.le_of_ble_eq_true rfl)) dX1_carryOutIn_4 ⟨Nat.zero_le _, Nat.zero_le _⟩)) (fun r hr9 => ?_)
    cases hr9
    refine va_ti hx hb hTS hS (i := kOR.getD 2 0) (show vp_in (nI 2) 10 from vp_in_nI (by decide) (by decide)) (v := .int 3) (congrArg Value.int (by decide)) dX1_carryOutIn_7 ?_
    refine lv_tableIn (x := 3) (off := 72) (tgt := 80) hx hb dX1_carryOutIn_8 (by decide) (by decide) (by decide) (by decide) ?_
    have hok := (ri_2 u x y).symm.trans hok
    refine lv_aload_n hx hb dX1_carryOutIn_80 rfl (lv_at hl 1 rfl) ?_
    refine lv_iload_n hx hb dX1_carryOutIn_81 rfl (lv_at hl 2 rfl) ?_
    refine hcMi (As := [.int x]) (rest := []) (wr := []) (F := fX3_giveChairsBack u x) 0 4 ⟨hx, hb, hml, hown, hts⟩ (kX3_giveChairsBack l D ca a _ u x (noHat_ok hi.2 hok)) (cwV 1 hts gX1_carryOutIn_X3_giveChairsBack rfl rfl rfl (by decide +kernel) ⟨Nat.le_of_ble_eq_true rfl, Nat.le_of_ble_eq_true rfl⟩) hK hP hD hS hA (List.Perm.refl _) rfl rfl rfl hl.1 rfl (Nat.le_of_ble_eq_true rfl) ⟨Nat.zero_le _, Nat.zero_le _⟩ dX1_carryOutIn_82 (fun H locs hP hD hS => ?_)
    refine lv_pop hx hb dX1_carryOutIn_85 rfl ?_
    refine lv_goto (tgt := 151) hx hb dX1_carryOutIn_86 (by decide) ?_
    exact W.vret hx hb hr (fun t ht hW => ⟨⟨_, rfl, rfl, by rw [ht, cout_2]; exact hP, va_K.moved hW.alike hK, by rw [cout_2]; exact hD⟩, hS.F ht⟩) hS.2.2 dX1_carryOutIn_151
  · refine va_gets hx hb hZS hS hown (hts (.fieldLink RX1 68 "HatReservations$1" "$SwitchMap$HatReservations$Command" "[I") (by decide +kernel)) (fun _ h9 => h9) dX1_carryOutIn_0 ?_
    refine lv_aload_n hx hb dX1_carryOutIn_3 rfl (lv_at hl 0 rfl) ?_
    have hO := (hX.2.1.1 3 (by decide)).2.2 _ (List.mem_cons_self)
    refine vp_callSi (run_weak (va_runU (As := []) (rest := [.ref tS]) ⟨hx, hb, hml, hown, hts⟩ (kJx29ce0_ordinal_8abf5 l (en 3) (kOR.getD 3 0)) (va_cwU 0 hts gX1_carryOutIn_Jx29ce0_ordinal_8abf5_u74X1 rfl rfl rfl rfl (by decide +kernel) ⟨Nat.le_of_ble_eq_true rfl, Nat.le_of_ble_eq_true rfl⟩) ⟨OPc_blind, va_Orecv (hX.2.1.1 3 (by decide)).2.1 hS, fun U hU hW => ⟨rfl, by show va_OF _ _ _ _ _ _ U U.heap; rw [hU]; exact ((hO.kept hS.2.1).narrow (fun _ h => h.elim)).moved hW.alike⟩⟩ rfl rfl hl.1 rfl (lv_room (Nat.le_of_ble_eq_true rfl)) dX1_carryOutIn_4 ⟨Nat.zero_le _, Nat.zero_le _⟩)) (fun r hr9 => ?_)
    cases hr9
    refine va_ti hx hb hTS hS (i := kOR.getD 3 0) (show vp_in (nI 3) 10 from vp_in_nI (by decide) (by decide)) (v := .int 4) (congrArg Value.int (by decide)) dX1_carryOutIn_7 ?_
    refine lv_tableIn (x := 4) (off := 81) (tgt := 89) hx hb dX1_carryOutIn_8 (by decide) (by decide) (by decide) (by decide) ?_
    have hok := (ri_3 u x y).symm.trans hok
    refine lv_aload_n hx hb dX1_carryOutIn_89 rfl (lv_at hl 1 rfl) ?_
    refine lv_iload_n hx hb dX1_carryOutIn_90 rfl (lv_at hl 2 rfl) ?_
    refine hcMi (As := [.int x]) (rest := []) (wr := []) (F := fX3_startIdleTimeAgain u x) 0 4 ⟨hx, hb, hml, hown, hts⟩ (kX3_startIdleTimeAgain l D ca a _ u x (noHat_ok hi.2 hok)) (cwV 1 hts gX1_carryOutIn_X3_startIdleTimeAgain rfl rfl rfl (by decide +kernel) ⟨Nat.le_of_ble_eq_true rfl, Nat.le_of_ble_eq_true rfl⟩) hK hP hD hS hA (List.Perm.refl _) rfl rfl rfl hl.1 rfl (Nat.le_of_ble_eq_true rfl) ⟨Nat.zero_le _, Nat.zero_le _⟩ dX1_carryOutIn_91 (fun H locs hP hD hS => ?_)
    refine lv_pop hx hb dX1_carryOutIn_94 rfl ?_
    refine lv_goto (tgt := 151) hx hb dX1_carryOutIn_95 (by decide) ?_
    exact W.vret hx hb hr (fun t ht hW => ⟨⟨_, rfl, rfl, by rw [ht, cout_3]; exact hP, va_K.moved hW.alike hK, by rw [cout_3]; exact hD⟩, hS.F ht⟩) hS.2.2 dX1_carryOutIn_151
  · refine va_gets hx hb hZS hS hown (hts (.fieldLink RX1 68 "HatReservations$1" "$SwitchMap$HatReservations$Command" "[I") (by decide +kernel)) (fun _ h9 => h9) dX1_carryOutIn_0 ?_
    refine lv_aload_n hx hb dX1_carryOutIn_3 rfl (lv_at hl 0 rfl) ?_
    have hO := (hX.2.1.1 4 (by decide)).2.2 _ (List.mem_cons_self)
    refine vp_callSi (run_weak (va_runU (As := []) (rest := [.ref tS]) ⟨hx, hb, hml, hown, hts⟩ (kJx29ce0_ordinal_8abf5 l (en 4) (kOR.getD 4 0)) (va_cwU 0 hts gX1_carryOutIn_Jx29ce0_ordinal_8abf5_u74X1 rfl rfl rfl rfl (by decide +kernel) ⟨Nat.le_of_ble_eq_true rfl, Nat.le_of_ble_eq_true rfl⟩) ⟨OPc_blind, va_Orecv (hX.2.1.1 4 (by decide)).2.1 hS, fun U hU hW => ⟨rfl, by show va_OF _ _ _ _ _ _ U U.heap; rw [hU]; exact ((hO.kept hS.2.1).narrow (fun _ h => h.elim)).moved hW.alike⟩⟩ rfl rfl hl.1 rfl (lv_room (Nat.le_of_ble_eq_true rfl)) dX1_carryOutIn_4 ⟨Nat.zero_le _, Nat.zero_le _⟩)) (fun r hr9 => ?_)
    cases hr9
    refine va_ti hx hb hTS hS (i := kOR.getD 4 0) (show vp_in (nI 4) 10 from vp_in_nI (by decide) (by decide)) (v := .int 5) (congrArg Value.int (by decide)) dX1_carryOutIn_7 ?_
    refine lv_tableIn (x := 5) (off := 90) (tgt := 98) hx hb dX1_carryOutIn_8 (by decide) (by decide) (by decide) (by decide) ?_
    have hok := (ri_4 u x y).symm.trans hok
    refine lv_aload_n hx hb dX1_carryOutIn_98 rfl (lv_at hl 1 rfl) ?_
    refine lv_iload_n hx hb dX1_carryOutIn_99 rfl (lv_at hl 2 rfl) ?_
    refine lv_iload_n hx hb dX1_carryOutIn_100 rfl (lv_at hl 3 rfl) ?_
    refine hcMi (As := [.int x, .int y]) (rest := []) (wr := []) (F := fX3_putCoat u x y) 0 4 ⟨hx, hb, hml, hown, hts⟩ (kX3_putCoat l D ca a _ u x y (coat_ok hi.2 hok).1) (cwV 2 hts gX1_carryOutIn_X3_putCoat rfl rfl rfl (by decide +kernel) ⟨Nat.le_of_ble_eq_true rfl, Nat.le_of_ble_eq_true rfl⟩) hK hP hD hS hA (List.Perm.refl _) rfl rfl rfl hl.1 rfl (Nat.le_of_ble_eq_true rfl) ⟨Nat.zero_le _, Nat.zero_le _⟩ dX1_carryOutIn_101 (fun H locs hP hD hS => ?_)
    refine lv_pop hx hb dX1_carryOutIn_104 rfl ?_
    refine lv_goto (tgt := 151) hx hb dX1_carryOutIn_105 (by decide) ?_
    exact W.vret hx hb hr (fun t ht hW => ⟨⟨_, rfl, rfl, by rw [ht, cout_4]; exact hP, va_K.moved hW.alike hK, by rw [cout_4]; exact hD⟩, hS.F ht⟩) hS.2.2 dX1_carryOutIn_151
  · refine va_gets hx hb hZS hS hown (hts (.fieldLink RX1 68 "HatReservations$1" "$SwitchMap$HatReservations$Command" "[I") (by decide +kernel)) (fun _ h9 => h9) dX1_carryOutIn_0 ?_
    refine lv_aload_n hx hb dX1_carryOutIn_3 rfl (lv_at hl 0 rfl) ?_
    have hO := (hX.2.1.1 5 (by decide)).2.2 _ (List.mem_cons_self)
    refine vp_callSi (run_weak (va_runU (As := []) (rest := [.ref tS]) ⟨hx, hb, hml, hown, hts⟩ (kJx29ce0_ordinal_8abf5 l (en 5) (kOR.getD 5 0)) (va_cwU 0 hts gX1_carryOutIn_Jx29ce0_ordinal_8abf5_u74X1 rfl rfl rfl rfl (by decide +kernel) ⟨Nat.le_of_ble_eq_true rfl, Nat.le_of_ble_eq_true rfl⟩) ⟨OPc_blind, va_Orecv (hX.2.1.1 5 (by decide)).2.1 hS, fun U hU hW => ⟨rfl, by show va_OF _ _ _ _ _ _ U U.heap; rw [hU]; exact ((hO.kept hS.2.1).narrow (fun _ h => h.elim)).moved hW.alike⟩⟩ rfl rfl hl.1 rfl (lv_room (Nat.le_of_ble_eq_true rfl)) dX1_carryOutIn_4 ⟨Nat.zero_le _, Nat.zero_le _⟩)) (fun r hr9 => ?_)
    cases hr9
    refine va_ti hx hb hTS hS (i := kOR.getD 5 0) (show vp_in (nI 5) 10 from vp_in_nI (by decide) (by decide)) (v := .int 6) (congrArg Value.int (by decide)) dX1_carryOutIn_7 ?_
    refine lv_tableIn (x := 6) (off := 100) (tgt := 108) hx hb dX1_carryOutIn_8 (by decide) (by decide) (by decide) (by decide) ?_
    have hok := (ri_5 u x y).symm.trans hok
    refine lv_aload_n hx hb dX1_carryOutIn_108 rfl (lv_at hl 1 rfl) ?_
    refine lv_iload_n hx hb dX1_carryOutIn_109 rfl (lv_at hl 2 rfl) ?_
    refine hcMi (As := [.int x]) (rest := []) (wr := []) (F := fX3_pullCoat u x) 0 4 ⟨hx, hb, hml, hown, hts⟩ (kX3_pullCoat l D ca a _ u x (noCoat_ok hi.2 hok)) (cwV 1 hts gX1_carryOutIn_X3_pullCoat rfl rfl rfl (by decide +kernel) ⟨Nat.le_of_ble_eq_true rfl, Nat.le_of_ble_eq_true rfl⟩) hK hP hD hS hA (List.Perm.refl _) rfl rfl rfl hl.1 rfl (Nat.le_of_ble_eq_true rfl) ⟨Nat.zero_le _, Nat.zero_le _⟩ dX1_carryOutIn_110 (fun H locs hP hD hS => ?_)
    refine lv_pop hx hb dX1_carryOutIn_113 rfl ?_
    refine lv_goto (tgt := 151) hx hb dX1_carryOutIn_114 (by decide) ?_
    exact W.vret hx hb hr (fun t ht hW => ⟨⟨_, rfl, rfl, by rw [ht, cout_5]; exact hP, va_K.moved hW.alike hK, by rw [cout_5]; exact hD⟩, hS.F ht⟩) hS.2.2 dX1_carryOutIn_151
  · refine va_gets hx hb hZS hS hown (hts (.fieldLink RX1 68 "HatReservations$1" "$SwitchMap$HatReservations$Command" "[I") (by decide +kernel)) (fun _ h9 => h9) dX1_carryOutIn_0 ?_
    refine lv_aload_n hx hb dX1_carryOutIn_3 rfl (lv_at hl 0 rfl) ?_
    have hO := (hX.2.1.1 6 (by decide)).2.2 _ (List.mem_cons_self)
    refine vp_callSi (run_weak (va_runU (As := []) (rest := [.ref tS]) ⟨hx, hb, hml, hown, hts⟩ (kJx29ce0_ordinal_8abf5 l (en 6) (kOR.getD 6 0)) (va_cwU 0 hts gX1_carryOutIn_Jx29ce0_ordinal_8abf5_u74X1 rfl rfl rfl rfl (by decide +kernel) ⟨Nat.le_of_ble_eq_true rfl, Nat.le_of_ble_eq_true rfl⟩) ⟨OPc_blind, va_Orecv (hX.2.1.1 6 (by decide)).2.1 hS, fun U hU hW => ⟨rfl, by show va_OF _ _ _ _ _ _ U U.heap; rw [hU]; exact ((hO.kept hS.2.1).narrow (fun _ h => h.elim)).moved hW.alike⟩⟩ rfl rfl hl.1 rfl (lv_room (Nat.le_of_ble_eq_true rfl)) dX1_carryOutIn_4 ⟨Nat.zero_le _, Nat.zero_le _⟩)) (fun r hr9 => ?_)
    cases hr9
    refine va_ti hx hb hTS hS (i := kOR.getD 6 0) (show vp_in (nI 6) 10 from vp_in_nI (by decide) (by decide)) (v := .int 7) (congrArg Value.int (by decide)) dX1_carryOutIn_7 ?_
    refine lv_tableIn (x := 7) (off := 109) (tgt := 117) hx hb dX1_carryOutIn_8 (by decide) (by decide) (by decide) (by decide) ?_
    have hok := (ri_6 u x y).symm.trans hok
    refine lv_aload_n hx hb dX1_carryOutIn_117 rfl (lv_at hl 1 rfl) ?_
    refine lv_iload_n hx hb dX1_carryOutIn_118 rfl (lv_at hl 2 rfl) ?_
    refine lv_iload_n hx hb dX1_carryOutIn_119 rfl (lv_at hl 3 rfl) ?_
    refine hcMi (As := [.int x, .int y]) (rest := []) (wr := []) (F := fX3_fightFor u x y) 0 4 ⟨hx, hb, hml, hown, hts⟩ (kX3_fightFor l D ca a _ u x y (contest_ok hi.2 hok).1 (contest_ok hi.2 hok).2) (cwV 2 hts gX1_carryOutIn_X3_fightFor rfl rfl rfl (by decide +kernel) ⟨Nat.le_of_ble_eq_true rfl, Nat.le_of_ble_eq_true rfl⟩) hK hP hD hS hA (List.Perm.refl _) rfl rfl rfl hl.1 rfl (Nat.le_of_ble_eq_true rfl) ⟨Nat.zero_le _, Nat.zero_le _⟩ dX1_carryOutIn_120 (fun H locs hP hD hS => ?_)
    refine lv_pop hx hb dX1_carryOutIn_123 rfl ?_
    refine lv_goto (tgt := 151) hx hb dX1_carryOutIn_124 (by decide) ?_
    exact W.vret hx hb hr (fun t ht hW => ⟨⟨_, rfl, rfl, by rw [ht, cout_6]; exact hP, va_K.moved hW.alike hK, by rw [cout_6]; exact hD⟩, hS.F ht⟩) hS.2.2 dX1_carryOutIn_151
  · refine va_gets hx hb hZS hS hown (hts (.fieldLink RX1 68 "HatReservations$1" "$SwitchMap$HatReservations$Command" "[I") (by decide +kernel)) (fun _ h9 => h9) dX1_carryOutIn_0 ?_
    refine lv_aload_n hx hb dX1_carryOutIn_3 rfl (lv_at hl 0 rfl) ?_
    have hO := (hX.2.1.1 7 (by decide)).2.2 _ (List.mem_cons_self)
    refine vp_callSi (run_weak (va_runU (As := []) (rest := [.ref tS]) ⟨hx, hb, hml, hown, hts⟩ (kJx29ce0_ordinal_8abf5 l (en 7) (kOR.getD 7 0)) (va_cwU 0 hts gX1_carryOutIn_Jx29ce0_ordinal_8abf5_u74X1 rfl rfl rfl rfl (by decide +kernel) ⟨Nat.le_of_ble_eq_true rfl, Nat.le_of_ble_eq_true rfl⟩) ⟨OPc_blind, va_Orecv (hX.2.1.1 7 (by decide)).2.1 hS, fun U hU hW => ⟨rfl, by show va_OF _ _ _ _ _ _ U U.heap; rw [hU]; exact ((hO.kept hS.2.1).narrow (fun _ h => h.elim)).moved hW.alike⟩⟩ rfl rfl hl.1 rfl (lv_room (Nat.le_of_ble_eq_true rfl)) dX1_carryOutIn_4 ⟨Nat.zero_le _, Nat.zero_le _⟩)) (fun r hr9 => ?_)
    cases hr9
    refine va_ti hx hb hTS hS (i := kOR.getD 7 0) (show vp_in (nI 7) 10 from vp_in_nI (by decide) (by decide)) (v := .int 8) (congrArg Value.int (by decide)) dX1_carryOutIn_7 ?_
    refine lv_tableIn (x := 8) (off := 119) (tgt := 127) hx hb dX1_carryOutIn_8 (by decide) (by decide) (by decide) (by decide) ?_
    have hok := (ri_7 u x y).symm.trans hok
    refine lv_aload_n hx hb dX1_carryOutIn_127 rfl (lv_at hl 1 rfl) ?_
    refine lv_iload_n hx hb dX1_carryOutIn_128 rfl (lv_at hl 2 rfl) ?_
    refine hcMi (As := [.int x]) (rest := []) (wr := []) (F := fX3_letPass u x) 0 4 ⟨hx, hb, hml, hown, hts⟩ (kX3_letPass l D ca a _ u x ) (cwV 1 hts gX1_carryOutIn_X3_letPass rfl rfl rfl (by decide +kernel) ⟨Nat.le_of_ble_eq_true rfl, Nat.le_of_ble_eq_true rfl⟩) hK hP hD hS hA (List.Perm.refl _) rfl rfl rfl hl.1 rfl (Nat.le_of_ble_eq_true rfl) ⟨Nat.zero_le _, Nat.zero_le _⟩ dX1_carryOutIn_129 (fun H locs hP hD hS => ?_)
    refine lv_pop hx hb dX1_carryOutIn_132 rfl ?_
    refine lv_goto (tgt := 151) hx hb dX1_carryOutIn_133 (by decide) ?_
    exact W.vret hx hb hr (fun t ht hW => ⟨⟨_, rfl, rfl, by rw [ht, cout_7]; exact hP, va_K.moved hW.alike hK, by rw [cout_7]; exact hD⟩, hS.F ht⟩) hS.2.2 dX1_carryOutIn_151
  · refine va_gets hx hb hZS hS hown (hts (.fieldLink RX1 68 "HatReservations$1" "$SwitchMap$HatReservations$Command" "[I") (by decide +kernel)) (fun _ h9 => h9) dX1_carryOutIn_0 ?_
    refine lv_aload_n hx hb dX1_carryOutIn_3 rfl (lv_at hl 0 rfl) ?_
    have hO := (hX.2.1.1 8 (by decide)).2.2 _ (List.mem_cons_self)
    refine vp_callSi (run_weak (va_runU (As := []) (rest := [.ref tS]) ⟨hx, hb, hml, hown, hts⟩ (kJx29ce0_ordinal_8abf5 l (en 8) (kOR.getD 8 0)) (va_cwU 0 hts gX1_carryOutIn_Jx29ce0_ordinal_8abf5_u74X1 rfl rfl rfl rfl (by decide +kernel) ⟨Nat.le_of_ble_eq_true rfl, Nat.le_of_ble_eq_true rfl⟩) ⟨OPc_blind, va_Orecv (hX.2.1.1 8 (by decide)).2.1 hS, fun U hU hW => ⟨rfl, by show va_OF _ _ _ _ _ _ U U.heap; rw [hU]; exact ((hO.kept hS.2.1).narrow (fun _ h => h.elim)).moved hW.alike⟩⟩ rfl rfl hl.1 rfl (lv_room (Nat.le_of_ble_eq_true rfl)) dX1_carryOutIn_4 ⟨Nat.zero_le _, Nat.zero_le _⟩)) (fun r hr9 => ?_)
    cases hr9
    refine va_ti hx hb hTS hS (i := kOR.getD 8 0) (show vp_in (nI 8) 10 from vp_in_nI (by decide) (by decide)) (v := .int 9) (congrArg Value.int (by decide)) dX1_carryOutIn_7 ?_
    refine lv_tableIn (x := 9) (off := 128) (tgt := 136) hx hb dX1_carryOutIn_8 (by decide) (by decide) (by decide) (by decide) ?_
    have hok := (ri_8 u x y).symm.trans hok
    refine lv_aload_n hx hb dX1_carryOutIn_136 rfl (lv_at hl 1 rfl) ?_
    refine lv_iload_n hx hb dX1_carryOutIn_137 rfl (lv_at hl 2 rfl) ?_
    refine hcMi (As := [.int x]) (rest := []) (wr := []) (F := fX3_sweepHats u x) 0 4 ⟨hx, hb, hml, hown, hts⟩ (kX3_sweepHats l D ca a _ u x ) (cwV 1 hts gX1_carryOutIn_X3_sweepHats rfl rfl rfl (by decide +kernel) ⟨Nat.le_of_ble_eq_true rfl, Nat.le_of_ble_eq_true rfl⟩) hK hP hD hS hA (List.Perm.refl _) rfl rfl rfl hl.1 rfl (Nat.le_of_ble_eq_true rfl) ⟨Nat.zero_le _, Nat.zero_le _⟩ dX1_carryOutIn_138 (fun H locs hP hD hS => ?_)
    refine lv_pop hx hb dX1_carryOutIn_141 rfl ?_
    refine lv_goto (tgt := 151) hx hb dX1_carryOutIn_142 (by decide) ?_
    exact W.vret hx hb hr (fun t ht hW => ⟨⟨_, rfl, rfl, by rw [ht, cout_8]; exact hP, va_K.moved hW.alike hK, by rw [cout_8]; exact hD⟩, hS.F ht⟩) hS.2.2 dX1_carryOutIn_151
  · refine va_gets hx hb hZS hS hown (hts (.fieldLink RX1 68 "HatReservations$1" "$SwitchMap$HatReservations$Command" "[I") (by decide +kernel)) (fun _ h9 => h9) dX1_carryOutIn_0 ?_
    refine lv_aload_n hx hb dX1_carryOutIn_3 rfl (lv_at hl 0 rfl) ?_
    have hO := (hX.2.1.1 9 (by decide)).2.2 _ (List.mem_cons_self)
    refine vp_callSi (run_weak (va_runU (As := []) (rest := [.ref tS]) ⟨hx, hb, hml, hown, hts⟩ (kJx29ce0_ordinal_8abf5 l (en 9) (kOR.getD 9 0)) (va_cwU 0 hts gX1_carryOutIn_Jx29ce0_ordinal_8abf5_u74X1 rfl rfl rfl rfl (by decide +kernel) ⟨Nat.le_of_ble_eq_true rfl, Nat.le_of_ble_eq_true rfl⟩) ⟨OPc_blind, va_Orecv (hX.2.1.1 9 (by decide)).2.1 hS, fun U hU hW => ⟨rfl, by show va_OF _ _ _ _ _ _ U U.heap; rw [hU]; exact ((hO.kept hS.2.1).narrow (fun _ h => h.elim)).moved hW.alike⟩⟩ rfl rfl hl.1 rfl (lv_room (Nat.le_of_ble_eq_true rfl)) dX1_carryOutIn_4 ⟨Nat.zero_le _, Nat.zero_le _⟩)) (fun r hr9 => ?_)
    cases hr9
    refine va_ti hx hb hTS hS (i := kOR.getD 9 0) (show vp_in (nI 9) 10 from vp_in_nI (by decide) (by decide)) (v := .int 0) (congrArg Value.int (by decide)) dX1_carryOutIn_7 ?_
    refine lv_tableOut (x := 0) (tgt := 145) hx hb dX1_carryOutIn_8 (by decide) (by decide) ?_
    have hok := (ri_9 u x y).symm.trans hok
    refine lv_aload_n hx hb dX1_carryOutIn_145 rfl (lv_at hl 1 rfl) ?_
    refine lv_iload_n hx hb dX1_carryOutIn_146 rfl (lv_at hl 2 rfl) ?_
    refine hcMi (As := [.int x]) (rest := []) (wr := []) (F := fX3_gainFeather u x) 0 4 ⟨hx, hb, hml, hown, hts⟩ (kX3_gainFeather l D ca a _ u x (feather_ok hi.2 hok)) (cwV 1 hts gX1_carryOutIn_X3_gainFeather rfl rfl rfl (by decide +kernel) ⟨Nat.le_of_ble_eq_true rfl, Nat.le_of_ble_eq_true rfl⟩) hK hP hD hS hA (List.Perm.refl _) rfl rfl rfl hl.1 rfl (Nat.le_of_ble_eq_true rfl) ⟨Nat.zero_le _, Nat.zero_le _⟩ dX1_carryOutIn_147 (fun H locs hP hD hS => ?_)
    refine lv_pop hx hb dX1_carryOutIn_150 rfl ?_
    exact W.vret hx hb hr (fun t ht hW => ⟨⟨_, rfl, rfl, by rw [ht, cout_9]; exact hP, va_K.moved hW.alike hK, by rw [cout_9]; exact hD⟩, hS.F ht⟩) hS.2.2 dX1_carryOutIn_151
