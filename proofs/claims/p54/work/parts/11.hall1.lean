def fX3_hasGuest (u : HS) (x1 : Int32) : Int32 :=
  (if x1 < 0 then 0 else (if (h9 u) ≤ x1 then 0 else 1))
set_option maxHeartbeats 4000000 in
set_option maxRecDepth 100000 in
/-- hasGuest -/
theorem kX3_hasGuest (l : Launch) (D : va_G) (ca : Nat → ClassId) (a : Nat → Nat) (u : HS) (x1 : Int32) : Met l yX3_hasGuest wsX3_hasGuest ({ frames := 0, cells := 0, slots := 0, locals := 0 }) (RPc D ca (HW ca a u) [.ref (a 8), .int x1]) (vp_Si (fun r => r = fX3_hasGuest u x1)) 0 0 (fun _ => False) := by
  refine Met.ofW (cc := cX3_hasGuest) (maxL := 2) (ret := (some .boolean)) (by decide) rfl ?_
  intro p e s m args below meth c s₁ B hml hv
  obtain ⟨rfl, hP, hK⟩ := hv
  have hx := B.exec
  have hb := B.bytes
  have hr := B.returns
  have hts := atoms_spec (ws := wsX3_hasGuest) B.pre
  have hown : s.vm.findClass RX3 = some m.cls := findClass_of_methodNamed B.named
  have hlocks := B.notSynchronized
  have hin3 : ∀ w ∈ wsX30, w ∈ wsX3_hasGuest := by decide +kernel
  have hf : fX3_hasGuest u x1 = fX3_hasGuest u x1 := rfl
  refine W_entry (Nat.le_of_ble_eq_true rfl) (fun ls hl => ?_)
  have hl : lv_has ls 2 [(0, .ref (a 8)), (1, .int x1)] := hl
  refine lv_iload_n hx hb dX3_hasGuest_0 rfl (lv_at hl 1 rfl) ?_
  refine lv_if_lt (tgt := 16) hx hb dX3_hasGuest_1 (by decide) (fun c_1 => ?_) (fun c_1 => ?_)
  · have hf := hf.trans (if_pos c_1)
    refine lv_iconst (v := 0) hx hb dX3_hasGuest_16 (by decide) ?_
    exact W.zret (ty := .boolean) (v := 0) hx hb hr (by decide) (fun t ht hW => ⟨0, rfl, hf.symm, ht⟩) (fun _ h => by cases h) dX3_hasGuest_17
  · have hf := hf.trans (if_neg c_1)
    refine lv_iload_n hx hb dX3_hasGuest_4 rfl (lv_at hl 1 rfl) ?_
    refine lv_aload_n hx hb dX3_hasGuest_5 rfl (lv_at hl 0 rfl) ?_
    refine va_get (D := D) (ci := 4) (v := .int (h9 u)) (C := RX3) (T := TX3) (N := 15) hx hb hts hin3 hown hK hP 0 rfl rfl 9 (by decide) (hts (.fieldLink RX3 41 "HatReservations$Hall" "guests" "I") (by decide +kernel)) (fun _ h9 => h9) rfl dX3_hasGuest_6 ?_
    refine lv_icmp_ge (tgt := 16) hx hb dX3_hasGuest_9 (by decide) (fun c_9 => ?_) (fun c_9 => ?_)
    · have hf := hf.trans (if_pos c_9)
      refine lv_iconst (v := 0) hx hb dX3_hasGuest_16 (by decide) ?_
      exact W.zret (ty := .boolean) (v := 0) hx hb hr (by decide) (fun t ht hW => ⟨0, rfl, hf.symm, ht⟩) (fun _ h => by cases h) dX3_hasGuest_17
    · have hf := hf.trans (if_neg c_9)
      refine lv_iconst (v := 1) hx hb dX3_hasGuest_12 (by decide) ?_
      refine lv_goto (tgt := 17) hx hb dX3_hasGuest_13 (by decide) ?_
      exact W.zret (ty := .boolean) (v := 1) hx hb hr (by decide) (fun t ht hW => ⟨1, rfl, hf.symm, ht⟩) (fun _ h => by cases h) dX3_hasGuest_17
theorem hasGuest_in {u : HS} {x : Int32} (hgs : h9 u ≤ 8) (h : ¬ fX3_hasGuest u x = 0) : vp_in x 8 := by
  unfold fX3_hasGuest at h
  by_cases c1 : x < 0
  · rw [if_pos c1] at h; exact absurd rfl h
  · rw [if_neg c1] at h
    by_cases c2 : h9 u ≤ x
    · rw [if_pos c2] at h; exact absurd rfl h
    · rw [vp_in_iff]
      rw [Int32.le_iff_toInt_le] at hgs c2
      rw [Int32.lt_iff_toInt_lt] at c1
      have e0 : (0 : Int32).toInt = 0 := by decide
      have e8 : (8 : Int32).toInt = 8 := by decide
      rw [e0] at c1; rw [e8] at hgs
      omega
def fX3_hasChair (x1 : Int32) : Int32 :=
  (if x1 < 0 then 0 else (if 40 ≤ x1 then 0 else 1))
set_option maxHeartbeats 4000000 in
set_option maxRecDepth 100000 in
/-- hasChair -/
theorem kX3_hasChair (l : Launch) (x1 : Int32) : Met l yX3_hasChair wsX3_hasChair ({ frames := 0, cells := 0, slots := 0, locals := 0 }) (va_Pc [.int x1] (fun _ => True)) (vp_Si (fun r => r = fX3_hasChair x1)) 0 0 (fun _ => False) := by
  refine Met.ofW (cc := cX3_hasChair) (maxL := 1) (ret := (some .boolean)) (by decide) rfl ?_
  intro p e s m args below meth c s₁ B hml hv
  obtain ⟨rfl, -⟩ := hv
  have hx := B.exec
  have hb := B.bytes
  have hr := B.returns
  have hts := atoms_spec (ws := wsX3_hasChair) B.pre
  have hown : s.vm.findClass RX3 = some m.cls := findClass_of_methodNamed B.named
  have hlocks := B.notSynchronized
  have hf : fX3_hasChair x1 = fX3_hasChair x1 := rfl
  refine W_entry (Nat.le_of_ble_eq_true rfl) (fun ls hl => ?_)
  have hl : lv_has ls 1 [(0, .int x1)] := hl
  refine lv_iload_n hx hb dX3_hasChair_0 rfl (lv_at hl 0 rfl) ?_
  refine lv_if_lt (tgt := 14) hx hb dX3_hasChair_1 (by decide) (fun c_1 => ?_) (fun c_1 => ?_)
  · have hf := hf.trans (if_pos c_1)
    refine lv_iconst (v := 0) hx hb dX3_hasChair_14 (by decide) ?_
    exact W.zret (ty := .boolean) (v := 0) hx hb hr (by decide) (fun t ht hW => ⟨0, rfl, hf.symm, ht⟩) (fun _ h => by cases h) dX3_hasChair_15
  · have hf := hf.trans (if_neg c_1)
    refine lv_iload_n hx hb dX3_hasChair_4 rfl (lv_at hl 0 rfl) ?_
    refine lv_bipush (v := 40) hx hb dX3_hasChair_5 (by decide) ?_
    refine lv_icmp_ge (tgt := 14) hx hb dX3_hasChair_7 (by decide) (fun c_7 => ?_) (fun c_7 => ?_)
    · have hf := hf.trans (if_pos c_7)
      refine lv_iconst (v := 0) hx hb dX3_hasChair_14 (by decide) ?_
      exact W.zret (ty := .boolean) (v := 0) hx hb hr (by decide) (fun t ht hW => ⟨0, rfl, hf.symm, ht⟩) (fun _ h => by cases h) dX3_hasChair_15
    · have hf := hf.trans (if_neg c_7)
      refine lv_iconst (v := 1) hx hb dX3_hasChair_10 (by decide) ?_
      refine lv_goto (tgt := 15) hx hb dX3_hasChair_11 (by decide) ?_
      exact W.zret (ty := .boolean) (v := 1) hx hb hr (by decide) (fun t ht hW => ⟨1, rfl, hf.symm, ht⟩) (fun _ h => by cases h) dX3_hasChair_15
def fX3_hatIsPlaced (u : HS) (x1 : Int32) : Int32 :=
  (if ((h2 u) x1.toNatClampNeg) = (-1) then 0 else 1)
set_option maxHeartbeats 4000000 in
set_option maxRecDepth 100000 in
/-- hatIsPlaced -/
theorem kX3_hatIsPlaced (l : Launch) (D : va_G) (ca : Nat → ClassId) (a : Nat → Nat) (u : HS) (x1 : Int32) (hg : vp_in x1 8) : Met l yX3_hatIsPlaced wsX3_hatIsPlaced ({ frames := 0, cells := 0, slots := 0, locals := 0 }) (RPc D ca (HW ca a u) [.ref (a 8), .int x1]) (vp_Si (fun r => r = fX3_hatIsPlaced u x1)) 0 0 (fun _ => False) := by
  refine Met.ofW (cc := cX3_hatIsPlaced) (maxL := 2) (ret := (some .boolean)) (by decide) rfl ?_
  intro p e s m args below meth c s₁ B hml hv
  obtain ⟨rfl, hP, hK⟩ := hv
  have hx := B.exec
  have hb := B.bytes
  have hr := B.returns
  have hts := atoms_spec (ws := wsX3_hatIsPlaced) B.pre
  have hown : s.vm.findClass RX3 = some m.cls := findClass_of_methodNamed B.named
  have hlocks := B.notSynchronized
  have hin3 : ∀ w ∈ wsX30, w ∈ wsX3_hatIsPlaced := by decide +kernel
  have hf : fX3_hatIsPlaced u x1 = fX3_hatIsPlaced u x1 := rfl
  refine W_entry (Nat.le_of_ble_eq_true rfl) (fun ls hl => ?_)
  have hl : lv_has ls 2 [(0, .ref (a 8)), (1, .int x1)] := hl
  refine lv_aload_n hx hb dX3_hatIsPlaced_0 rfl (lv_at hl 0 rfl) ?_
  refine va_get (D := D) (ci := 4) (v := .ref (a 2)) (C := RX3) (T := TX3) (N := 15) hx hb hts hin3 hown hK hP 0 rfl rfl 2 (by decide) (hts (.fieldLink RX3 18 "HatReservations$Hall" "hatChairs" "[I") (by decide +kernel)) (fun _ h9 => h9) rfl dX3_hatIsPlaced_1 ?_
  refine lv_iload_n hx hb dX3_hatIsPlaced_4 rfl (lv_at hl 1 rfl) ?_
  refine va_iald (f := h2 u) hx hb hK hP 3 0 rfl rfl hg dX3_hatIsPlaced_5 ?_
  refine lv_iconst (v := (-1)) hx hb dX3_hatIsPlaced_6 (by decide) ?_
  refine lv_icmp_eq (tgt := 14) hx hb dX3_hatIsPlaced_7 (by decide) (fun c_7 => ?_) (fun c_7 => ?_)
  · have hf := hf.trans (if_pos c_7)
    refine lv_iconst (v := 0) hx hb dX3_hatIsPlaced_14 (by decide) ?_
    exact W.zret (ty := .boolean) (v := 0) hx hb hr (by decide) (fun t ht hW => ⟨0, rfl, hf.symm, ht⟩) (fun _ h => by cases h) dX3_hatIsPlaced_15
  · have hf := hf.trans (if_neg c_7)
    refine lv_iconst (v := 1) hx hb dX3_hatIsPlaced_10 (by decide) ?_
    refine lv_goto (tgt := 15) hx hb dX3_hatIsPlaced_11 (by decide) ?_
    exact W.zret (ty := .boolean) (v := 1) hx hb hr (by decide) (fun t ht hW => ⟨1, rfl, hf.symm, ht⟩) (fun _ h => by cases h) dX3_hatIsPlaced_15
def fX3_covererAt_2 : Nat → Nat → HS → Int32 → Int32
  | 0, k, u, x1 => (-1)
  | n + 1, k, u, x1 => (if (lg_cmp ((ush ((h4 u) k) x1) &&& 1) 0) = 0 then fX3_covererAt_2 n (k + 1) u x1 else (nI k))
def fX3_covererAt (u : HS) (x1 : Int32) : Int32 :=
  fX3_covererAt_2 8 0 u x1
set_option maxHeartbeats 4000000 in
set_option maxRecDepth 100000 in
/-- covererAt -/
theorem kX3_covererAt (l : Launch) (D : va_G) (ca : Nat → ClassId) (a : Nat → Nat) (u : HS) (x1 : Int32) : Met l yX3_covererAt wsX3_covererAt ({ frames := 0, cells := 0, slots := 0, locals := 0 }) (RPc D ca (HW ca a u) [.ref (a 8), .int x1]) (vp_Si (fun r => r = fX3_covererAt u x1)) 0 0 (fun _ => False) := by
  refine Met.ofW (cc := cX3_covererAt) (maxL := 3) (ret := (some .int)) (by decide) rfl ?_
  intro p e s m args below meth c s₁ B hml hv
  obtain ⟨rfl, hP, hK⟩ := hv
  have hx := B.exec
  have hb := B.bytes
  have hr := B.returns
  have hts := atoms_spec (ws := wsX3_covererAt) B.pre
  have hown : s.vm.findClass RX3 = some m.cls := findClass_of_methodNamed B.named
  have hlocks := B.notSynchronized
  have hin3 : ∀ w ∈ wsX30, w ∈ wsX3_covererAt := by decide +kernel
  have cut_2 : ∀ (n k : Nat) (hnk : n + k = 8) (hf : fX3_covererAt u x1 = fX3_covererAt_2 n k u x1) (ls : Array Slot) (hl : lv_has ls 3 [(0, .ref (a 8)), (1, .int x1), (2, .int (nI k))]), W p l e (headSpec wsX3_covererAt ({ frames := 0, cells := 0, slots := 0, locals := 0 })).room s m ([.ref (a 8), .int x1] : List Value).toArray below meth c s.heap [] 0 0 (MQ below (vp_Si (fun r => r = fX3_covererAt u x1)) ([.ref (a 8), .int x1] : List Value).toArray s 0 0 (fun _ => False)) (F0 m 2 ls []) := by
    intro n
    induction n with
    | zero =>
      intro k hnk hf ls hl
      obtain rfl : k = 8 := by omega
      refine lv_iload_n hx hb dX3_covererAt_2 rfl (lv_at hl 2 rfl) ?_
      refine lv_bipush (v := 8) hx hb dX3_covererAt_3 (by decide) ?_
      refine lv_icmp_ge (tgt := 31) hx hb dX3_covererAt_5 (by decide) (fun _ => ?_) (fun q => absurd (by decide) q)
      refine lv_iconst (v := (-1)) hx hb dX3_covererAt_31 (by decide) ?_
      exact W.iret (v := (-1)) hx hb hr (fun t ht hW => ⟨(-1), rfl, hf.symm, ht⟩) (fun _ h => by cases h) dX3_covererAt_32
    | succ n ih =>
      intro k hnk hf ls hl
      refine lv_iload_n hx hb dX3_covererAt_2 rfl (lv_at hl 2 rfl) ?_
      refine lv_bipush (v := 8) hx hb dX3_covererAt_3 (by decide) ?_
      refine lv_icmp_ge (tgt := 31) hx hb dX3_covererAt_5 (by decide) (fun q => absurd q (show ¬ (8 : Int32) ≤ nI k from nI_ge (b := 8) (by omega) (by decide))) (fun _ => ?_)
      refine lv_aload_n hx hb dX3_covererAt_8 rfl (lv_at hl 0 rfl) ?_
      refine va_get (D := D) (ci := 4) (v := .ref (a 4)) (C := RX3) (T := TX3) (N := 15) hx hb hts hin3 hown hK hP 0 rfl rfl 4 (by decide) (hts (.fieldLink RX3 24 "HatReservations$Hall" "covers" "[J") (by decide +kernel)) (fun _ h9 => h9) rfl dX3_covererAt_9 ?_
      refine lv_iload_n hx hb dX3_covererAt_12 rfl (lv_at hl 2 rfl) ?_
      refine laldN (f := h4 u) hx hb hK hP 5 1 rfl rfl (k := k) (by omega) (by decide) dX3_covererAt_13 ?_
      refine lv_iload_n hx hb dX3_covererAt_14 rfl (lv_at hl 1 rfl) ?_
      refine lv_lushr (v := ush ((h4 u) k) x1) hx hb dX3_covererAt_15 rfl ?_
      refine lv_lconst (v := 1) hx hb dX3_covererAt_16 (by decide) ?_
      refine lv_land hx hb dX3_covererAt_17 ?_
      refine lv_lconst (v := 0) hx hb dX3_covererAt_18 (by decide) ?_
      refine W.lcmp hx hb dX3_covererAt_19 ?_
      refine lv_if_eq (tgt := 25) hx hb dX3_covererAt_20 (by decide) (fun c_20 => ?_) (fun c_20 => ?_)
      · have hf := hf.trans (if_pos c_20)
        refine lv_iinc (v := nI (k + 1)) (lv' := [(2, .int (nI (k + 1))), (0, .ref (a 8)), (1, .int x1)]) hx hb dX3_covererAt_25 hl (k := 2) rfl (nI_1 k) (by decide) rfl (fun ls hl => ?_)
        refine lv_goto (tgt := 2) hx hb dX3_covererAt_28 (by decide) ?_
        exact ih (k + 1) (by omega)   hf ls (lv_sub hl [1, 2, 0] rfl)
      · have hf := hf.trans (if_neg c_20)
        refine lv_iload_n hx hb dX3_covererAt_23 rfl (lv_at hl 2 rfl) ?_
        exact W.iret (v := nI k) hx hb hr (fun t ht hW => ⟨nI k, rfl, hf.symm, ht⟩) (fun _ h => by cases h) dX3_covererAt_24
  have hf : fX3_covererAt u x1 = fX3_covererAt u x1 := rfl
  refine W_entry (Nat.le_of_ble_eq_true rfl) (fun ls hl => ?_)
  have hl : lv_has ls 3 [(0, .ref (a 8)), (1, .int x1)] := hl
  refine lv_iconst (v := 0) hx hb dX3_covererAt_0 (by decide) ?_
  refine lv_istore_n (lv' := [(2, .int 0), (0, .ref (a 8)), (1, .int x1)]) hx hb dX3_covererAt_1 rfl hl (by decide) rfl (fun ls hl => ?_)
  exact cut_2 8 0 (by omega)   hf ls (lv_sub hl [1, 2, 0] rfl)
def fX3_coatsOn_4 : Nat → Nat → HS → Int32 → Int32 → Int32
  | 0, k, u, x1, y2 => y2
  | n + 1, k, u, x1, y2 => (if ((h5 u) k) = x1 then fX3_coatsOn_4 n (k + 1) u x1 (y2 + 1) else fX3_coatsOn_4 n (k + 1) u x1 y2)
def fX3_coatsOn (u : HS) (x1 : Int32) : Int32 :=
  fX3_coatsOn_4 8 0 u x1 0
set_option maxHeartbeats 4000000 in
set_option maxRecDepth 100000 in
/-- coatsOn -/
theorem kX3_coatsOn (l : Launch) (D : va_G) (ca : Nat → ClassId) (a : Nat → Nat) (u : HS) (x1 : Int32) : Met l yX3_coatsOn wsX3_coatsOn ({ frames := 0, cells := 0, slots := 0, locals := 0 }) (RPc D ca (HW ca a u) [.ref (a 8), .int x1]) (vp_Si (fun r => r = fX3_coatsOn u x1)) 0 0 (fun _ => False) := by
  refine Met.ofW (cc := cX3_coatsOn) (maxL := 4) (ret := (some .int)) (by decide) rfl ?_
  intro p e s m args below meth c s₁ B hml hv
  obtain ⟨rfl, hP, hK⟩ := hv
  have hx := B.exec
  have hb := B.bytes
  have hr := B.returns
  have hts := atoms_spec (ws := wsX3_coatsOn) B.pre
  have hown : s.vm.findClass RX3 = some m.cls := findClass_of_methodNamed B.named
  have hlocks := B.notSynchronized
  have hin3 : ∀ w ∈ wsX30, w ∈ wsX3_coatsOn := by decide +kernel
  have cut_4 : ∀ (n k : Nat) (hnk : n + k = 8) (y2 : Int32) (hf : fX3_coatsOn u x1 = fX3_coatsOn_4 n k u x1 y2) (ls : Array Slot) (hl : lv_has ls 4 [(0, .ref (a 8)), (1, .int x1), (2, .int y2), (3, .int (nI k))]), W p l e (headSpec wsX3_coatsOn ({ frames := 0, cells := 0, slots := 0, locals := 0 })).room s m ([.ref (a 8), .int x1] : List Value).toArray below meth c s.heap [] 0 0 (MQ below (vp_Si (fun r => r = fX3_coatsOn u x1)) ([.ref (a 8), .int x1] : List Value).toArray s 0 0 (fun _ => False)) (F0 m 4 ls []) := by
    intro n
    induction n with
    | zero =>
      intro k hnk y2 hf ls hl
      obtain rfl : k = 8 := by omega
      refine lv_iload_n hx hb dX3_coatsOn_4 rfl (lv_at hl 3 rfl) ?_
      refine lv_bipush (v := 8) hx hb dX3_coatsOn_5 (by decide) ?_
      refine lv_icmp_ge (tgt := 29) hx hb dX3_coatsOn_7 (by decide) (fun _ => ?_) (fun q => absurd (by decide) q)
      refine lv_iload_n hx hb dX3_coatsOn_29 rfl (lv_at hl 2 rfl) ?_
      exact W.iret (v := y2) hx hb hr (fun t ht hW => ⟨y2, rfl, hf.symm, ht⟩) (fun _ h => by cases h) dX3_coatsOn_30
    | succ n ih =>
      intro k hnk y2 hf ls hl
      refine lv_iload_n hx hb dX3_coatsOn_4 rfl (lv_at hl 3 rfl) ?_
      refine lv_bipush (v := 8) hx hb dX3_coatsOn_5 (by decide) ?_
      refine lv_icmp_ge (tgt := 29) hx hb dX3_coatsOn_7 (by decide) (fun q => absurd q (show ¬ (8 : Int32) ≤ nI k from nI_ge (b := 8) (by omega) (by decide))) (fun _ => ?_)
      refine lv_aload_n hx hb dX3_coatsOn_10 rfl (lv_at hl 0 rfl) ?_
      refine va_get (D := D) (ci := 4) (v := .ref (a 5)) (C := RX3) (T := TX3) (N := 15) hx hb hts hin3 hown hK hP 0 rfl rfl 5 (by decide) (hts (.fieldLink RX3 28 "HatReservations$Hall" "coatChairs" "[I") (by decide +kernel)) (fun _ h9 => h9) rfl dX3_coatsOn_11 ?_
      refine lv_iload_n hx hb dX3_coatsOn_14 rfl (lv_at hl 3 rfl) ?_
      refine ialdN (f := h5 u) hx hb hK hP 6 0 rfl rfl (k := k) (by omega) (by decide) dX3_coatsOn_15 ?_
      refine lv_iload_n hx hb dX3_coatsOn_16 rfl (lv_at hl 1 rfl) ?_
      refine lv_icmp_ne (tgt := 23) hx hb dX3_coatsOn_17 (by decide) (fun c_17 => ?_) (fun c_17 => ?_)
      · have hf := hf.trans (if_neg c_17)
        refine lv_iinc (v := nI (k + 1)) (lv' := [(3, .int (nI (k + 1))), (0, .ref (a 8)), (1, .int x1), (2, .int y2)]) hx hb dX3_coatsOn_23 hl (k := 3) rfl (nI_1 k) (by decide) rfl (fun ls hl => ?_)
        refine lv_goto (tgt := 4) hx hb dX3_coatsOn_26 (by decide) ?_
        exact ih (k + 1) (by omega) y2  hf ls (lv_sub hl [1, 2, 3, 0] rfl)
      · have hf := hf.trans (if_pos c_17)
        refine lv_iinc (v := y2 + 1) (lv' := [(2, .int (y2 + 1)), (0, .ref (a 8)), (1, .int x1), (3, .int (nI k))]) hx hb dX3_coatsOn_20 hl (k := 2) rfl rfl (by decide) rfl (fun ls hl => ?_)
        refine lv_iinc (v := nI (k + 1)) (lv' := [(3, .int (nI (k + 1))), (2, .int (y2 + 1)), (0, .ref (a 8)), (1, .int x1)]) hx hb dX3_coatsOn_23 hl (k := 3) rfl (nI_1 k) (by decide) rfl (fun ls hl => ?_)
        refine lv_goto (tgt := 4) hx hb dX3_coatsOn_26 (by decide) ?_
        exact ih (k + 1) (by omega) (y2 + 1)  hf ls (lv_sub hl [2, 3, 1, 0] rfl)
  have hf : fX3_coatsOn u x1 = fX3_coatsOn u x1 := rfl
  refine W_entry (Nat.le_of_ble_eq_true rfl) (fun ls hl => ?_)
  have hl : lv_has ls 4 [(0, .ref (a 8)), (1, .int x1)] := hl
  refine lv_iconst (v := 0) hx hb dX3_coatsOn_0 (by decide) ?_
  refine lv_istore_n (lv' := [(2, .int 0), (0, .ref (a 8)), (1, .int x1)]) hx hb dX3_coatsOn_1 rfl hl (by decide) rfl (fun ls hl => ?_)
  refine lv_iconst (v := 0) hx hb dX3_coatsOn_2 (by decide) ?_
  refine lv_istore_n (lv' := [(3, .int 0), (2, .int 0), (0, .ref (a 8)), (1, .int x1)]) hx hb dX3_coatsOn_3 rfl hl (by decide) rfl (fun ls hl => ?_)
  exact cut_4 8 0 (by omega) 0  hf ls (lv_sub hl [2, 3, 1, 0] rfl)
def fX3_refusalOfGuest (u : HS) (x1 : Int32) (x2 : Int32) : Int32 :=
  (if x1 < 0 then 1 else (if 9 < x1 then 1 else (if x2 < 0 then 1 else (if x2 ≤ 2 then (if (h9 u) < 8 then 0 else 2) else 1))))
set_option maxHeartbeats 4000000 in
set_option maxRecDepth 100000 in
/-- refusalOfGuest -/
theorem kX3_refusalOfGuest (l : Launch) (D : va_G) (ca : Nat → ClassId) (a : Nat → Nat) (u : HS) (x1 : Int32) (x2 : Int32) : Met l yX3_refusalOfGuest wsX3_refusalOfGuest ({ frames := 0, cells := 0, slots := 0, locals := 0 }) (RPc D ca (HW ca a u) [.ref (a 8), .int x1, .int x2]) (vp_Si (fun r => r = fX3_refusalOfGuest u x1 x2)) 0 0 (fun _ => False) := by
  refine Met.ofW (cc := cX3_refusalOfGuest) (maxL := 3) (ret := (some .int)) (by decide) rfl ?_
  intro p e s m args below meth c s₁ B hml hv
  obtain ⟨rfl, hP, hK⟩ := hv
  have hx := B.exec
  have hb := B.bytes
  have hr := B.returns
  have hts := atoms_spec (ws := wsX3_refusalOfGuest) B.pre
  have hown : s.vm.findClass RX3 = some m.cls := findClass_of_methodNamed B.named
  have hlocks := B.notSynchronized
  have hin3 : ∀ w ∈ wsX30, w ∈ wsX3_refusalOfGuest := by decide +kernel
  have hf : fX3_refusalOfGuest u x1 x2 = fX3_refusalOfGuest u x1 x2 := rfl
  refine W_entry (Nat.le_of_ble_eq_true rfl) (fun ls hl => ?_)
  have hl : lv_has ls 3 [(0, .ref (a 8)), (1, .int x1), (2, .int x2)] := hl
  refine lv_iload_n hx hb dX3_refusalOfGuest_0 rfl (lv_at hl 1 rfl) ?_
  refine lv_if_lt (tgt := 19) hx hb dX3_refusalOfGuest_1 (by decide) (fun c_1 => ?_) (fun c_1 => ?_)
  · have hf := hf.trans (if_pos c_1)
    refine lv_iconst (v := 1) hx hb dX3_refusalOfGuest_19 (by decide) ?_
    exact W.iret (v := 1) hx hb hr (fun t ht hW => ⟨1, rfl, hf.symm, ht⟩) (fun _ h => by cases h) dX3_refusalOfGuest_20
  · have hf := hf.trans (if_neg c_1)
    refine lv_iload_n hx hb dX3_refusalOfGuest_4 rfl (lv_at hl 1 rfl) ?_
    refine lv_bipush (v := 9) hx hb dX3_refusalOfGuest_5 (by decide) ?_
    refine lv_icmp_gt (tgt := 19) hx hb dX3_refusalOfGuest_7 (by decide) (fun c_7 => ?_) (fun c_7 => ?_)
    · have hf := hf.trans (if_pos c_7)
      refine lv_iconst (v := 1) hx hb dX3_refusalOfGuest_19 (by decide) ?_
      exact W.iret (v := 1) hx hb hr (fun t ht hW => ⟨1, rfl, hf.symm, ht⟩) (fun _ h => by cases h) dX3_refusalOfGuest_20
    · have hf := hf.trans (if_neg c_7)
      refine lv_iload_n hx hb dX3_refusalOfGuest_10 rfl (lv_at hl 2 rfl) ?_
      refine lv_if_lt (tgt := 19) hx hb dX3_refusalOfGuest_11 (by decide) (fun c_11 => ?_) (fun c_11 => ?_)
      · have hf := hf.trans (if_pos c_11)
        refine lv_iconst (v := 1) hx hb dX3_refusalOfGuest_19 (by decide) ?_
        exact W.iret (v := 1) hx hb hr (fun t ht hW => ⟨1, rfl, hf.symm, ht⟩) (fun _ h => by cases h) dX3_refusalOfGuest_20
      · have hf := hf.trans (if_neg c_11)
        refine lv_iload_n hx hb dX3_refusalOfGuest_14 rfl (lv_at hl 2 rfl) ?_
        refine lv_iconst (v := 2) hx hb dX3_refusalOfGuest_15 (by decide) ?_
        refine lv_icmp_le (tgt := 21) hx hb dX3_refusalOfGuest_16 (by decide) (fun c_16 => ?_) (fun c_16 => ?_)
        · have hf := hf.trans (if_pos c_16)
          refine lv_aload_n hx hb dX3_refusalOfGuest_21 rfl (lv_at hl 0 rfl) ?_
          refine va_get (D := D) (ci := 4) (v := .int (h9 u)) (C := RX3) (T := TX3) (N := 15) hx hb hts hin3 hown hK hP 0 rfl rfl 9 (by decide) (hts (.fieldLink RX3 41 "HatReservations$Hall" "guests" "I") (by decide +kernel)) (fun _ h9 => h9) rfl dX3_refusalOfGuest_22 ?_
          refine lv_bipush (v := 8) hx hb dX3_refusalOfGuest_25 (by decide) ?_
          refine lv_icmp_lt (tgt := 34) hx hb dX3_refusalOfGuest_27 (by decide) (fun c_27 => ?_) (fun c_27 => ?_)
          · have hf := hf.trans (if_pos c_27)
            refine lv_iconst (v := 0) hx hb dX3_refusalOfGuest_34 (by decide) ?_
            exact W.iret (v := 0) hx hb hr (fun t ht hW => ⟨0, rfl, hf.symm, ht⟩) (fun _ h => by cases h) dX3_refusalOfGuest_35
          · have hf := hf.trans (if_neg c_27)
            refine lv_iconst (v := 2) hx hb dX3_refusalOfGuest_30 (by decide) ?_
            refine lv_goto (tgt := 35) hx hb dX3_refusalOfGuest_31 (by decide) ?_
            exact W.iret (v := 2) hx hb hr (fun t ht hW => ⟨2, rfl, hf.symm, ht⟩) (fun _ h => by cases h) dX3_refusalOfGuest_35
        · have hf := hf.trans (if_neg c_16)
          refine lv_iconst (v := 1) hx hb dX3_refusalOfGuest_19 (by decide) ?_
          exact W.iret (v := 1) hx hb hr (fun t ht hW => ⟨1, rfl, hf.symm, ht⟩) (fun _ h => by cases h) dX3_refusalOfGuest_20
def fX3_refusalOfFeather (u : HS) (x1 : Int32) : Int32 :=
  (if (fX3_hasGuest u x1) = 0 then 1 else (if ((h0 u) x1.toNatClampNeg) < 9 then 0 else 2))
set_option maxHeartbeats 4000000 in
set_option maxRecDepth 100000 in
/-- refusalOfFeather -/
theorem kX3_refusalOfFeather (l : Launch) (D : va_G) (ca : Nat → ClassId) (a : Nat → Nat) (u : HS) (x1 : Int32) (hgs : h9 u ≤ 8) : Met l yX3_refusalOfFeather wsX3_refusalOfFeather ({ frames := 1, cells := 0, slots := 0, locals := 21 }) (RPc D ca (HW ca a u) [.ref (a 8), .int x1]) (vp_Si (fun r => r = fX3_refusalOfFeather u x1)) 0 0 (fun _ => False) := by
  refine Met.ofW (cc := cX3_refusalOfFeather) (maxL := 2) (ret := (some .int)) (by decide) rfl ?_
  intro p e s m args below meth c s₁ B hml hv
  obtain ⟨rfl, hP, hK⟩ := hv
  have hx := B.exec
  have hb := B.bytes
  have hr := B.returns
  have hts := atoms_spec (ws := wsX3_refusalOfFeather) B.pre
  have hown : s.vm.findClass RX3 = some m.cls := findClass_of_methodNamed B.named
  have hlocks := B.notSynchronized
  have hin3 : ∀ w ∈ wsX30, w ∈ wsX3_refusalOfFeather := by decide +kernel
  have hf : fX3_refusalOfFeather u x1 = fX3_refusalOfFeather u x1 := rfl
  refine W_entry (Nat.le_of_ble_eq_true rfl) (fun ls hl => ?_)
  have hl : lv_has ls 2 [(0, .ref (a 8)), (1, .int x1)] := hl
  refine lv_aload_n hx hb dX3_refusalOfFeather_0 rfl (lv_at hl 0 rfl) ?_
  refine lv_iload_n hx hb dX3_refusalOfFeather_1 rfl (lv_at hl 1 rfl) ?_
  refine hcRi (As := [.int x1]) (rest := []) 0 4 ⟨hx, hb, hml, hown, hts⟩ (kX3_hasGuest l D ca a u x1 ) (cwV 1 hts gX3_refusalOfFeather_X3_hasGuest rfl rfl rfl (by decide +kernel) ⟨Nat.le_of_ble_eq_true rfl, Nat.le_of_ble_eq_true rfl⟩) hK hP rfl rfl rfl hl.1 rfl (Nat.le_of_ble_eq_true rfl) ⟨Nat.zero_le _, Nat.zero_le _⟩ dX3_refusalOfFeather_2 ?_
  refine lv_if_ne (tgt := 10) hx hb dX3_refusalOfFeather_5 (by decide) (fun c_5 => ?_) (fun c_5 => ?_)
  · have hf := hf.trans (if_neg c_5)
    refine lv_aload_n hx hb dX3_refusalOfFeather_10 rfl (lv_at hl 0 rfl) ?_
    refine va_get (D := D) (ci := 4) (v := .ref (a 0)) (C := RX3) (T := TX3) (N := 15) hx hb hts hin3 hown hK hP 0 rfl rfl 0 (by decide) (hts (.fieldLink RX3 9 "HatReservations$Hall" "feathers" "[I") (by decide +kernel)) (fun _ h9 => h9) rfl dX3_refusalOfFeather_11 ?_
    refine lv_iload_n hx hb dX3_refusalOfFeather_14 rfl (lv_at hl 1 rfl) ?_
    refine va_iald (f := h0 u) hx hb hK hP 1 0 rfl rfl (hasGuest_in hgs c_5) dX3_refusalOfFeather_15 ?_
    refine lv_bipush (v := 9) hx hb dX3_refusalOfFeather_16 (by decide) ?_
    refine lv_icmp_lt (tgt := 25) hx hb dX3_refusalOfFeather_18 (by decide) (fun c_18 => ?_) (fun c_18 => ?_)
    · have hf := hf.trans (if_pos c_18)
      refine lv_iconst (v := 0) hx hb dX3_refusalOfFeather_25 (by decide) ?_
      exact W.iret (v := 0) hx hb hr (fun t ht hW => ⟨0, rfl, hf.symm, ht⟩) (fun _ h => by cases h) dX3_refusalOfFeather_26
    · have hf := hf.trans (if_neg c_18)
      refine lv_iconst (v := 2) hx hb dX3_refusalOfFeather_21 (by decide) ?_
      refine lv_goto (tgt := 26) hx hb dX3_refusalOfFeather_22 (by decide) ?_
      exact W.iret (v := 2) hx hb hr (fun t ht hW => ⟨2, rfl, hf.symm, ht⟩) (fun _ h => by cases h) dX3_refusalOfFeather_26
  · have hf := hf.trans (if_pos c_5)
    refine lv_iconst (v := 1) hx hb dX3_refusalOfFeather_8 (by decide) ?_
    exact W.iret (v := 1) hx hb hr (fun t ht hW => ⟨1, rfl, hf.symm, ht⟩) (fun _ h => by cases h) dX3_refusalOfFeather_9
def fX3_refusalOfHat (u : HS) (x1 : Int32) (x2 : Int32) : Int32 :=
  (if (fX3_hasGuest u x1) = 0 then 1 else (if (fX3_hasChair x2) = 0 then 1 else (if (fX3_hatIsPlaced u x1) = 0 then (if (fX3_covererAt u x2) = (-1) then 0 else 3) else 2)))
set_option maxHeartbeats 4000000 in
set_option maxRecDepth 100000 in
/-- refusalOfHat -/
theorem kX3_refusalOfHat (l : Launch) (D : va_G) (ca : Nat → ClassId) (a : Nat → Nat) (u : HS) (x1 : Int32) (x2 : Int32) (hgs : h9 u ≤ 8) : Met l yX3_refusalOfHat wsX3_refusalOfHat ({ frames := 1, cells := 0, slots := 0, locals := 22 }) (RPc D ca (HW ca a u) [.ref (a 8), .int x1, .int x2]) (vp_Si (fun r => r = fX3_refusalOfHat u x1 x2)) 0 0 (fun _ => False) := by
  refine Met.ofW (cc := cX3_refusalOfHat) (maxL := 3) (ret := (some .int)) (by decide) rfl ?_
  intro p e s m args below meth c s₁ B hml hv
  obtain ⟨rfl, hP, hK⟩ := hv
  have hx := B.exec
  have hb := B.bytes
  have hr := B.returns
  have hts := atoms_spec (ws := wsX3_refusalOfHat) B.pre
  have hown : s.vm.findClass RX3 = some m.cls := findClass_of_methodNamed B.named
  have hlocks := B.notSynchronized
  have hf : fX3_refusalOfHat u x1 x2 = fX3_refusalOfHat u x1 x2 := rfl
  refine W_entry (Nat.le_of_ble_eq_true rfl) (fun ls hl => ?_)
  have hl : lv_has ls 3 [(0, .ref (a 8)), (1, .int x1), (2, .int x2)] := hl
  refine lv_aload_n hx hb dX3_refusalOfHat_0 rfl (lv_at hl 0 rfl) ?_
  refine lv_iload_n hx hb dX3_refusalOfHat_1 rfl (lv_at hl 1 rfl) ?_
  refine hcRi (As := [.int x1]) (rest := []) 0 4 ⟨hx, hb, hml, hown, hts⟩ (kX3_hasGuest l D ca a u x1 ) (cwV 1 hts gX3_refusalOfHat_X3_hasGuest rfl rfl rfl (by decide +kernel) ⟨Nat.le_of_ble_eq_true rfl, Nat.le_of_ble_eq_true rfl⟩) hK hP rfl rfl rfl hl.1 rfl (Nat.le_of_ble_eq_true rfl) ⟨Nat.zero_le _, Nat.zero_le _⟩ dX3_refusalOfHat_2 ?_
  refine lv_if_eq (tgt := 15) hx hb dX3_refusalOfHat_5 (by decide) (fun c_5 => ?_) (fun c_5 => ?_)
  · have hf := hf.trans (if_pos c_5)
    refine lv_iconst (v := 1) hx hb dX3_refusalOfHat_15 (by decide) ?_
    exact W.iret (v := 1) hx hb hr (fun t ht hW => ⟨1, rfl, hf.symm, ht⟩) (fun _ h => by cases h) dX3_refusalOfHat_16
  · have hf := hf.trans (if_neg c_5)
    refine lv_iload_n hx hb dX3_refusalOfHat_8 rfl (lv_at hl 2 rfl) ?_
    refine hcSi (As := [.int x2]) (rest := []) ⟨hx, hb, hml, hown, hts⟩ (kX3_hasChair l x2 ) (va_cwS 1 hts gX3_refusalOfHat_X3_hasChair rfl rfl rfl (by decide +kernel) ⟨Nat.le_of_ble_eq_true rfl, Nat.le_of_ble_eq_true rfl⟩) rfl hl.1 rfl (Nat.le_of_ble_eq_true rfl) ⟨Nat.zero_le _, Nat.zero_le _⟩ dX3_refusalOfHat_9 ?_
    refine lv_if_ne (tgt := 17) hx hb dX3_refusalOfHat_12 (by decide) (fun c_12 => ?_) (fun c_12 => ?_)
    · have hf := hf.trans (if_neg c_12)
      refine lv_aload_n hx hb dX3_refusalOfHat_17 rfl (lv_at hl 0 rfl) ?_
      refine lv_iload_n hx hb dX3_refusalOfHat_18 rfl (lv_at hl 1 rfl) ?_
      refine hcRi (As := [.int x1]) (rest := []) 0 4 ⟨hx, hb, hml, hown, hts⟩ (kX3_hatIsPlaced l D ca a u x1 (hasGuest_in hgs c_5)) (cwV 1 hts gX3_refusalOfHat_X3_hatIsPlaced rfl rfl rfl (by decide +kernel) ⟨Nat.le_of_ble_eq_true rfl, Nat.le_of_ble_eq_true rfl⟩) hK hP rfl rfl rfl hl.1 rfl (Nat.le_of_ble_eq_true rfl) ⟨Nat.zero_le _, Nat.zero_le _⟩ dX3_refusalOfHat_19 ?_
      refine lv_if_eq (tgt := 27) hx hb dX3_refusalOfHat_22 (by decide) (fun c_22 => ?_) (fun c_22 => ?_)
      · have hf := hf.trans (if_pos c_22)
        refine lv_aload_n hx hb dX3_refusalOfHat_27 rfl (lv_at hl 0 rfl) ?_
        refine lv_iload_n hx hb dX3_refusalOfHat_28 rfl (lv_at hl 2 rfl) ?_
        refine hcRi (As := [.int x2]) (rest := []) 0 4 ⟨hx, hb, hml, hown, hts⟩ (kX3_covererAt l D ca a u x2 ) (cwV 1 hts gX3_refusalOfHat_X3_covererAt rfl rfl rfl (by decide +kernel) ⟨Nat.le_of_ble_eq_true rfl, Nat.le_of_ble_eq_true rfl⟩) hK hP rfl rfl rfl hl.1 rfl (Nat.le_of_ble_eq_true rfl) ⟨Nat.zero_le _, Nat.zero_le _⟩ dX3_refusalOfHat_29 ?_
        refine lv_iconst (v := (-1)) hx hb dX3_refusalOfHat_32 (by decide) ?_
        refine lv_icmp_eq (tgt := 40) hx hb dX3_refusalOfHat_33 (by decide) (fun c_33 => ?_) (fun c_33 => ?_)
        · have hf := hf.trans (if_pos c_33)
          refine lv_iconst (v := 0) hx hb dX3_refusalOfHat_40 (by decide) ?_
          exact W.iret (v := 0) hx hb hr (fun t ht hW => ⟨0, rfl, hf.symm, ht⟩) (fun _ h => by cases h) dX3_refusalOfHat_41
        · have hf := hf.trans (if_neg c_33)
          refine lv_iconst (v := 3) hx hb dX3_refusalOfHat_36 (by decide) ?_
          refine lv_goto (tgt := 41) hx hb dX3_refusalOfHat_37 (by decide) ?_
          exact W.iret (v := 3) hx hb hr (fun t ht hW => ⟨3, rfl, hf.symm, ht⟩) (fun _ h => by cases h) dX3_refusalOfHat_41
      · have hf := hf.trans (if_neg c_22)
        refine lv_iconst (v := 2) hx hb dX3_refusalOfHat_25 (by decide) ?_
        exact W.iret (v := 2) hx hb hr (fun t ht hW => ⟨2, rfl, hf.symm, ht⟩) (fun _ h => by cases h) dX3_refusalOfHat_26
    · have hf := hf.trans (if_pos c_12)
      refine lv_iconst (v := 1) hx hb dX3_refusalOfHat_15 (by decide) ?_
      exact W.iret (v := 1) hx hb hr (fun t ht hW => ⟨1, rfl, hf.symm, ht⟩) (fun _ h => by cases h) dX3_refusalOfHat_16
def fX3_refusalWithoutHat (u : HS) (x1 : Int32) : Int32 :=
  (if (fX3_hasGuest u x1) = 0 then 1 else (if (fX3_hatIsPlaced u x1) = 0 then 2 else 0))
set_option maxHeartbeats 4000000 in
set_option maxRecDepth 100000 in
/-- refusalWithoutHat -/
theorem kX3_refusalWithoutHat (l : Launch) (D : va_G) (ca : Nat → ClassId) (a : Nat → Nat) (u : HS) (x1 : Int32) (hgs : h9 u ≤ 8) : Met l yX3_refusalWithoutHat wsX3_refusalWithoutHat ({ frames := 1, cells := 0, slots := 0, locals := 21 }) (RPc D ca (HW ca a u) [.ref (a 8), .int x1]) (vp_Si (fun r => r = fX3_refusalWithoutHat u x1)) 0 0 (fun _ => False) := by
  refine Met.ofW (cc := cX3_refusalWithoutHat) (maxL := 2) (ret := (some .int)) (by decide) rfl ?_
  intro p e s m args below meth c s₁ B hml hv
  obtain ⟨rfl, hP, hK⟩ := hv
  have hx := B.exec
  have hb := B.bytes
  have hr := B.returns
  have hts := atoms_spec (ws := wsX3_refusalWithoutHat) B.pre
  have hown : s.vm.findClass RX3 = some m.cls := findClass_of_methodNamed B.named
  have hlocks := B.notSynchronized
  have hf : fX3_refusalWithoutHat u x1 = fX3_refusalWithoutHat u x1 := rfl
  refine W_entry (Nat.le_of_ble_eq_true rfl) (fun ls hl => ?_)
  have hl : lv_has ls 2 [(0, .ref (a 8)), (1, .int x1)] := hl
  refine lv_aload_n hx hb dX3_refusalWithoutHat_0 rfl (lv_at hl 0 rfl) ?_
  refine lv_iload_n hx hb dX3_refusalWithoutHat_1 rfl (lv_at hl 1 rfl) ?_
  refine hcRi (As := [.int x1]) (rest := []) 0 4 ⟨hx, hb, hml, hown, hts⟩ (kX3_hasGuest l D ca a u x1 ) (cwV 1 hts gX3_refusalWithoutHat_X3_hasGuest rfl rfl rfl (by decide +kernel) ⟨Nat.le_of_ble_eq_true rfl, Nat.le_of_ble_eq_true rfl⟩) hK hP rfl rfl rfl hl.1 rfl (Nat.le_of_ble_eq_true rfl) ⟨Nat.zero_le _, Nat.zero_le _⟩ dX3_refusalWithoutHat_2 ?_
  refine lv_if_ne (tgt := 10) hx hb dX3_refusalWithoutHat_5 (by decide) (fun c_5 => ?_) (fun c_5 => ?_)
  · have hf := hf.trans (if_neg c_5)
    refine lv_aload_n hx hb dX3_refusalWithoutHat_10 rfl (lv_at hl 0 rfl) ?_
    refine lv_iload_n hx hb dX3_refusalWithoutHat_11 rfl (lv_at hl 1 rfl) ?_
    refine hcRi (As := [.int x1]) (rest := []) 0 4 ⟨hx, hb, hml, hown, hts⟩ (kX3_hatIsPlaced l D ca a u x1 (hasGuest_in hgs c_5)) (cwV 1 hts gX3_refusalWithoutHat_X3_hatIsPlaced rfl rfl rfl (by decide +kernel) ⟨Nat.le_of_ble_eq_true rfl, Nat.le_of_ble_eq_true rfl⟩) hK hP rfl rfl rfl hl.1 rfl (Nat.le_of_ble_eq_true rfl) ⟨Nat.zero_le _, Nat.zero_le _⟩ dX3_refusalWithoutHat_12 ?_
    refine lv_if_eq (tgt := 22) hx hb dX3_refusalWithoutHat_15 (by decide) (fun c_15 => ?_) (fun c_15 => ?_)
    · have hf := hf.trans (if_pos c_15)
      refine lv_iconst (v := 2) hx hb dX3_refusalWithoutHat_22 (by decide) ?_
      exact W.iret (v := 2) hx hb hr (fun t ht hW => ⟨2, rfl, hf.symm, ht⟩) (fun _ h => by cases h) dX3_refusalWithoutHat_23
    · have hf := hf.trans (if_neg c_15)
      refine lv_iconst (v := 0) hx hb dX3_refusalWithoutHat_18 (by decide) ?_
      refine lv_goto (tgt := 23) hx hb dX3_refusalWithoutHat_19 (by decide) ?_
      exact W.iret (v := 0) hx hb hr (fun t ht hW => ⟨0, rfl, hf.symm, ht⟩) (fun _ h => by cases h) dX3_refusalWithoutHat_23
  · have hf := hf.trans (if_pos c_5)
    refine lv_iconst (v := 1) hx hb dX3_refusalWithoutHat_8 (by decide) ?_
    exact W.iret (v := 1) hx hb hr (fun t ht hW => ⟨1, rfl, hf.symm, ht⟩) (fun _ h => by cases h) dX3_refusalWithoutHat_9
def fX3_refusalOfCoat (u : HS) (x1 : Int32) (x2 : Int32) : Int32 :=
  (if (fX3_hasGuest u x1) = 0 then 1 else (if (fX3_hasChair x2) = 0 then 1 else (if ((h5 u) x1.toNatClampNeg) = (-1) then (if (fX3_covererAt u x2) = (-1) then 3 else (if (fX3_covererAt u x2) = x1 then 3 else (if 3 ≤ (fX3_coatsOn u x2) then 3 else 0))) else 2)))
set_option maxHeartbeats 4000000 in
set_option maxRecDepth 100000 in
/-- refusalOfCoat -/
theorem kX3_refusalOfCoat (l : Launch) (D : va_G) (ca : Nat → ClassId) (a : Nat → Nat) (u : HS) (x1 : Int32) (x2 : Int32) (hgs : h9 u ≤ 8) : Met l yX3_refusalOfCoat wsX3_refusalOfCoat ({ frames := 1, cells := 0, slots := 0, locals := 23 }) (RPc D ca (HW ca a u) [.ref (a 8), .int x1, .int x2]) (vp_Si (fun r => r = fX3_refusalOfCoat u x1 x2)) 0 0 (fun _ => False) := by
  refine Met.ofW (cc := cX3_refusalOfCoat) (maxL := 5) (ret := (some .int)) (by decide) rfl ?_
  intro p e s m args below meth c s₁ B hml hv
  obtain ⟨rfl, hP, hK⟩ := hv
  have hx := B.exec
  have hb := B.bytes
  have hr := B.returns
  have hts := atoms_spec (ws := wsX3_refusalOfCoat) B.pre
  have hown : s.vm.findClass RX3 = some m.cls := findClass_of_methodNamed B.named
  have hlocks := B.notSynchronized
  have hin3 : ∀ w ∈ wsX30, w ∈ wsX3_refusalOfCoat := by decide +kernel
  have hf : fX3_refusalOfCoat u x1 x2 = fX3_refusalOfCoat u x1 x2 := rfl
  refine W_entry (Nat.le_of_ble_eq_true rfl) (fun ls hl => ?_)
  have hl : lv_has ls 5 [(0, .ref (a 8)), (1, .int x1), (2, .int x2)] := hl
  refine lv_aload_n hx hb dX3_refusalOfCoat_0 rfl (lv_at hl 0 rfl) ?_
  refine lv_iload_n hx hb dX3_refusalOfCoat_1 rfl (lv_at hl 1 rfl) ?_
  refine hcRi (As := [.int x1]) (rest := []) 0 4 ⟨hx, hb, hml, hown, hts⟩ (kX3_hasGuest l D ca a u x1 ) (cwV 1 hts gX3_refusalOfCoat_X3_hasGuest rfl rfl rfl (by decide +kernel) ⟨Nat.le_of_ble_eq_true rfl, Nat.le_of_ble_eq_true rfl⟩) hK hP rfl rfl rfl hl.1 rfl (Nat.le_of_ble_eq_true rfl) ⟨Nat.zero_le _, Nat.zero_le _⟩ dX3_refusalOfCoat_2 ?_
  refine lv_if_eq (tgt := 15) hx hb dX3_refusalOfCoat_5 (by decide) (fun c_5 => ?_) (fun c_5 => ?_)
  · have hf := hf.trans (if_pos c_5)
    refine lv_iconst (v := 1) hx hb dX3_refusalOfCoat_15 (by decide) ?_
    exact W.iret (v := 1) hx hb hr (fun t ht hW => ⟨1, rfl, hf.symm, ht⟩) (fun _ h => by cases h) dX3_refusalOfCoat_16
  · have hf := hf.trans (if_neg c_5)
    refine lv_iload_n hx hb dX3_refusalOfCoat_8 rfl (lv_at hl 2 rfl) ?_
    refine hcSi (As := [.int x2]) (rest := []) ⟨hx, hb, hml, hown, hts⟩ (kX3_hasChair l x2 ) (va_cwS 1 hts gX3_refusalOfCoat_X3_hasChair rfl rfl rfl (by decide +kernel) ⟨Nat.le_of_ble_eq_true rfl, Nat.le_of_ble_eq_true rfl⟩) rfl hl.1 rfl (Nat.le_of_ble_eq_true rfl) ⟨Nat.zero_le _, Nat.zero_le _⟩ dX3_refusalOfCoat_9 ?_
    refine lv_if_ne (tgt := 17) hx hb dX3_refusalOfCoat_12 (by decide) (fun c_12 => ?_) (fun c_12 => ?_)
    · have hf := hf.trans (if_neg c_12)
      refine lv_aload_n hx hb dX3_refusalOfCoat_17 rfl (lv_at hl 0 rfl) ?_
      refine va_get (D := D) (ci := 4) (v := .ref (a 5)) (C := RX3) (T := TX3) (N := 15) hx hb hts hin3 hown hK hP 0 rfl rfl 5 (by decide) (hts (.fieldLink RX3 28 "HatReservations$Hall" "coatChairs" "[I") (by decide +kernel)) (fun _ h9 => h9) rfl dX3_refusalOfCoat_18 ?_
      refine lv_iload_n hx hb dX3_refusalOfCoat_21 rfl (lv_at hl 1 rfl) ?_
      refine va_iald (f := h5 u) hx hb hK hP 6 0 rfl rfl (hasGuest_in hgs c_5) dX3_refusalOfCoat_22 ?_
      refine lv_iconst (v := (-1)) hx hb dX3_refusalOfCoat_23 (by decide) ?_
      refine lv_icmp_eq (tgt := 29) hx hb dX3_refusalOfCoat_24 (by decide) (fun c_24 => ?_) (fun c_24 => ?_)
      · have hf := hf.trans (if_pos c_24)
        refine lv_aload_n hx hb dX3_refusalOfCoat_29 rfl (lv_at hl 0 rfl) ?_
        refine lv_iload_n hx hb dX3_refusalOfCoat_30 rfl (lv_at hl 2 rfl) ?_
        refine hcRi (As := [.int x2]) (rest := []) 0 4 ⟨hx, hb, hml, hown, hts⟩ (kX3_covererAt l D ca a u x2 ) (cwV 1 hts gX3_refusalOfCoat_X3_covererAt rfl rfl rfl (by decide +kernel) ⟨Nat.le_of_ble_eq_true rfl, Nat.le_of_ble_eq_true rfl⟩) hK hP rfl rfl rfl hl.1 rfl (Nat.le_of_ble_eq_true rfl) ⟨Nat.zero_le _, Nat.zero_le _⟩ dX3_refusalOfCoat_31 ?_
        refine lv_istore_n (lv' := [(3, .int (fX3_covererAt u x2)), (0, .ref (a 8)), (1, .int x1), (2, .int x2)]) hx hb dX3_refusalOfCoat_34 rfl hl (by decide) rfl (fun ls hl => ?_)
        refine lv_iload_n hx hb dX3_refusalOfCoat_35 rfl (lv_at hl 0 rfl) ?_
        refine lv_iconst (v := (-1)) hx hb dX3_refusalOfCoat_36 (by decide) ?_
        refine lv_icmp_eq (tgt := 49) hx hb dX3_refusalOfCoat_37 (by decide) (fun c_37 => ?_) (fun c_37 => ?_)
        · have hf := hf.trans (if_pos c_37)
          refine lv_iconst (v := 0) hx hb dX3_refusalOfCoat_49 (by decide) ?_
          refine lv_istore (lv' := [(4, .int 0), (3, .int (fX3_covererAt u x2)), (0, .ref (a 8)), (1, .int x1), (2, .int x2)]) hx hb dX3_refusalOfCoat_50 hl (by decide) rfl (fun ls hl => ?_)
          refine lv_iload hx hb dX3_refusalOfCoat_52 (lv_at hl 0 rfl) ?_
          refine lv_if_eq (tgt := 70) hx hb dX3_refusalOfCoat_54 (by decide) (fun _ => ?_) (fun q => absurd (by decide) q)
          refine lv_iconst (v := 3) hx hb dX3_refusalOfCoat_70 (by decide) ?_
          exact W.iret (v := 3) hx hb hr (fun t ht hW => ⟨3, rfl, hf.symm, ht⟩) (fun _ h => by cases h) dX3_refusalOfCoat_71
        · have hf := hf.trans (if_neg c_37)
          refine lv_iload_n hx hb dX3_refusalOfCoat_40 rfl (lv_at hl 0 rfl) ?_
          refine lv_iload_n hx hb dX3_refusalOfCoat_41 rfl (lv_at hl 2 rfl) ?_
          refine lv_icmp_eq (tgt := 49) hx hb dX3_refusalOfCoat_42 (by decide) (fun c_42 => ?_) (fun c_42 => ?_)
          · have hf := hf.trans (if_pos c_42)
            refine lv_iconst (v := 0) hx hb dX3_refusalOfCoat_49 (by decide) ?_
            refine lv_istore (lv' := [(4, .int 0), (3, .int (fX3_covererAt u x2)), (0, .ref (a 8)), (1, .int x1), (2, .int x2)]) hx hb dX3_refusalOfCoat_50 hl (by decide) rfl (fun ls hl => ?_)
            refine lv_iload hx hb dX3_refusalOfCoat_52 (lv_at hl 0 rfl) ?_
            refine lv_if_eq (tgt := 70) hx hb dX3_refusalOfCoat_54 (by decide) (fun _ => ?_) (fun q => absurd (by decide) q)
            refine lv_iconst (v := 3) hx hb dX3_refusalOfCoat_70 (by decide) ?_
            exact W.iret (v := 3) hx hb hr (fun t ht hW => ⟨3, rfl, hf.symm, ht⟩) (fun _ h => by cases h) dX3_refusalOfCoat_71
          · have hf := hf.trans (if_neg c_42)
            refine lv_iconst (v := 1) hx hb dX3_refusalOfCoat_45 (by decide) ?_
            refine lv_goto (tgt := 50) hx hb dX3_refusalOfCoat_46 (by decide) ?_
            refine lv_istore (lv' := [(4, .int 1), (3, .int (fX3_covererAt u x2)), (0, .ref (a 8)), (1, .int x1), (2, .int x2)]) hx hb dX3_refusalOfCoat_50 hl (by decide) rfl (fun ls hl => ?_)
            refine lv_iload hx hb dX3_refusalOfCoat_52 (lv_at hl 0 rfl) ?_
            refine lv_if_eq (tgt := 70) hx hb dX3_refusalOfCoat_54 (by decide) (fun q => absurd q (by decide)) (fun _ => ?_)
            refine lv_aload_n hx hb dX3_refusalOfCoat_57 rfl (lv_at hl 2 rfl) ?_
            refine lv_iload_n hx hb dX3_refusalOfCoat_58 rfl (lv_at hl 4 rfl) ?_
            refine hcRi (As := [.int x2]) (rest := []) 0 4 ⟨hx, hb, hml, hown, hts⟩ (kX3_coatsOn l D ca a u x2 ) (cwV 1 hts gX3_refusalOfCoat_X3_coatsOn rfl rfl rfl (by decide +kernel) ⟨Nat.le_of_ble_eq_true rfl, Nat.le_of_ble_eq_true rfl⟩) hK hP rfl rfl rfl hl.1 rfl (Nat.le_of_ble_eq_true rfl) ⟨Nat.zero_le _, Nat.zero_le _⟩ dX3_refusalOfCoat_59 ?_
            refine lv_iconst (v := 3) hx hb dX3_refusalOfCoat_62 (by decide) ?_
            refine lv_icmp_ge (tgt := 70) hx hb dX3_refusalOfCoat_63 (by decide) (fun c_63 => ?_) (fun c_63 => ?_)
            · have hf := hf.trans (if_pos c_63)
              refine lv_iconst (v := 3) hx hb dX3_refusalOfCoat_70 (by decide) ?_
              exact W.iret (v := 3) hx hb hr (fun t ht hW => ⟨3, rfl, hf.symm, ht⟩) (fun _ h => by cases h) dX3_refusalOfCoat_71
            · have hf := hf.trans (if_neg c_63)
              refine lv_iconst (v := 0) hx hb dX3_refusalOfCoat_66 (by decide) ?_
              refine lv_goto (tgt := 71) hx hb dX3_refusalOfCoat_67 (by decide) ?_
              exact W.iret (v := 0) hx hb hr (fun t ht hW => ⟨0, rfl, hf.symm, ht⟩) (fun _ h => by cases h) dX3_refusalOfCoat_71
      · have hf := hf.trans (if_neg c_24)
        refine lv_iconst (v := 2) hx hb dX3_refusalOfCoat_27 (by decide) ?_
        exact W.iret (v := 2) hx hb hr (fun t ht hW => ⟨2, rfl, hf.symm, ht⟩) (fun _ h => by cases h) dX3_refusalOfCoat_28
    · have hf := hf.trans (if_pos c_12)
      refine lv_iconst (v := 1) hx hb dX3_refusalOfCoat_15 (by decide) ?_
      exact W.iret (v := 1) hx hb hr (fun t ht hW => ⟨1, rfl, hf.symm, ht⟩) (fun _ h => by cases h) dX3_refusalOfCoat_16
def fX3_refusalWithoutCoat (u : HS) (x1 : Int32) : Int32 :=
  (if (fX3_hasGuest u x1) = 0 then 1 else (if ((h5 u) x1.toNatClampNeg) = (-1) then 2 else 0))
set_option maxHeartbeats 4000000 in
set_option maxRecDepth 100000 in
/-- refusalWithoutCoat -/
theorem kX3_refusalWithoutCoat (l : Launch) (D : va_G) (ca : Nat → ClassId) (a : Nat → Nat) (u : HS) (x1 : Int32) (hgs : h9 u ≤ 8) : Met l yX3_refusalWithoutCoat wsX3_refusalWithoutCoat ({ frames := 1, cells := 0, slots := 0, locals := 21 }) (RPc D ca (HW ca a u) [.ref (a 8), .int x1]) (vp_Si (fun r => r = fX3_refusalWithoutCoat u x1)) 0 0 (fun _ => False) := by
  refine Met.ofW (cc := cX3_refusalWithoutCoat) (maxL := 2) (ret := (some .int)) (by decide) rfl ?_
  intro p e s m args below meth c s₁ B hml hv
  obtain ⟨rfl, hP, hK⟩ := hv
  have hx := B.exec
  have hb := B.bytes
  have hr := B.returns
  have hts := atoms_spec (ws := wsX3_refusalWithoutCoat) B.pre
  have hown : s.vm.findClass RX3 = some m.cls := findClass_of_methodNamed B.named
  have hlocks := B.notSynchronized
  have hin3 : ∀ w ∈ wsX30, w ∈ wsX3_refusalWithoutCoat := by decide +kernel
  have hf : fX3_refusalWithoutCoat u x1 = fX3_refusalWithoutCoat u x1 := rfl
  refine W_entry (Nat.le_of_ble_eq_true rfl) (fun ls hl => ?_)
  have hl : lv_has ls 2 [(0, .ref (a 8)), (1, .int x1)] := hl
  refine lv_aload_n hx hb dX3_refusalWithoutCoat_0 rfl (lv_at hl 0 rfl) ?_
  refine lv_iload_n hx hb dX3_refusalWithoutCoat_1 rfl (lv_at hl 1 rfl) ?_
  refine hcRi (As := [.int x1]) (rest := []) 0 4 ⟨hx, hb, hml, hown, hts⟩ (kX3_hasGuest l D ca a u x1 ) (cwV 1 hts gX3_refusalWithoutCoat_X3_hasGuest rfl rfl rfl (by decide +kernel) ⟨Nat.le_of_ble_eq_true rfl, Nat.le_of_ble_eq_true rfl⟩) hK hP rfl rfl rfl hl.1 rfl (Nat.le_of_ble_eq_true rfl) ⟨Nat.zero_le _, Nat.zero_le _⟩ dX3_refusalWithoutCoat_2 ?_
  refine lv_if_ne (tgt := 10) hx hb dX3_refusalWithoutCoat_5 (by decide) (fun c_5 => ?_) (fun c_5 => ?_)
  · have hf := hf.trans (if_neg c_5)
    refine lv_aload_n hx hb dX3_refusalWithoutCoat_10 rfl (lv_at hl 0 rfl) ?_
    refine va_get (D := D) (ci := 4) (v := .ref (a 5)) (C := RX3) (T := TX3) (N := 15) hx hb hts hin3 hown hK hP 0 rfl rfl 5 (by decide) (hts (.fieldLink RX3 28 "HatReservations$Hall" "coatChairs" "[I") (by decide +kernel)) (fun _ h9 => h9) rfl dX3_refusalWithoutCoat_11 ?_
    refine lv_iload_n hx hb dX3_refusalWithoutCoat_14 rfl (lv_at hl 1 rfl) ?_
    refine va_iald (f := h5 u) hx hb hK hP 6 0 rfl rfl (hasGuest_in hgs c_5) dX3_refusalWithoutCoat_15 ?_
    refine lv_iconst (v := (-1)) hx hb dX3_refusalWithoutCoat_16 (by decide) ?_
    refine lv_icmp_ne (tgt := 24) hx hb dX3_refusalWithoutCoat_17 (by decide) (fun c_17 => ?_) (fun c_17 => ?_)
    · have hf := hf.trans (if_neg c_17)
      refine lv_iconst (v := 0) hx hb dX3_refusalWithoutCoat_24 (by decide) ?_
      exact W.iret (v := 0) hx hb hr (fun t ht hW => ⟨0, rfl, hf.symm, ht⟩) (fun _ h => by cases h) dX3_refusalWithoutCoat_25
    · have hf := hf.trans (if_pos c_17)
      refine lv_iconst (v := 2) hx hb dX3_refusalWithoutCoat_20 (by decide) ?_
      refine lv_goto (tgt := 25) hx hb dX3_refusalWithoutCoat_21 (by decide) ?_
      exact W.iret (v := 2) hx hb hr (fun t ht hW => ⟨2, rfl, hf.symm, ht⟩) (fun _ h => by cases h) dX3_refusalWithoutCoat_25
  · have hf := hf.trans (if_pos c_5)
    refine lv_iconst (v := 1) hx hb dX3_refusalWithoutCoat_8 (by decide) ?_
    exact W.iret (v := 1) hx hb hr (fun t ht hW => ⟨1, rfl, hf.symm, ht⟩) (fun _ h => by cases h) dX3_refusalWithoutCoat_9
def fX3_refusalOfContest (u : HS) (x1 : Int32) (x2 : Int32) : Int32 :=
  (if (fX3_hasGuest u x1) = 0 then 1 else (if (fX3_hasChair x2) = 0 then 1 else (if (fX3_covererAt u x2) = (-1) then 2 else (if (fX3_hatIsPlaced u x1) = 0 then 0 else 3))))
set_option maxHeartbeats 4000000 in
set_option maxRecDepth 100000 in
/-- refusalOfContest -/
theorem kX3_refusalOfContest (l : Launch) (D : va_G) (ca : Nat → ClassId) (a : Nat → Nat) (u : HS) (x1 : Int32) (x2 : Int32) (hgs : h9 u ≤ 8) : Met l yX3_refusalOfContest wsX3_refusalOfContest ({ frames := 1, cells := 0, slots := 0, locals := 22 }) (RPc D ca (HW ca a u) [.ref (a 8), .int x1, .int x2]) (vp_Si (fun r => r = fX3_refusalOfContest u x1 x2)) 0 0 (fun _ => False) := by
  refine Met.ofW (cc := cX3_refusalOfContest) (maxL := 3) (ret := (some .int)) (by decide) rfl ?_
  intro p e s m args below meth c s₁ B hml hv
  obtain ⟨rfl, hP, hK⟩ := hv
  have hx := B.exec
  have hb := B.bytes
  have hr := B.returns
  have hts := atoms_spec (ws := wsX3_refusalOfContest) B.pre
  have hown : s.vm.findClass RX3 = some m.cls := findClass_of_methodNamed B.named
  have hlocks := B.notSynchronized
  have hf : fX3_refusalOfContest u x1 x2 = fX3_refusalOfContest u x1 x2 := rfl
  refine W_entry (Nat.le_of_ble_eq_true rfl) (fun ls hl => ?_)
  have hl : lv_has ls 3 [(0, .ref (a 8)), (1, .int x1), (2, .int x2)] := hl
  refine lv_aload_n hx hb dX3_refusalOfContest_0 rfl (lv_at hl 0 rfl) ?_
  refine lv_iload_n hx hb dX3_refusalOfContest_1 rfl (lv_at hl 1 rfl) ?_
  refine hcRi (As := [.int x1]) (rest := []) 0 4 ⟨hx, hb, hml, hown, hts⟩ (kX3_hasGuest l D ca a u x1 ) (cwV 1 hts gX3_refusalOfContest_X3_hasGuest rfl rfl rfl (by decide +kernel) ⟨Nat.le_of_ble_eq_true rfl, Nat.le_of_ble_eq_true rfl⟩) hK hP rfl rfl rfl hl.1 rfl (Nat.le_of_ble_eq_true rfl) ⟨Nat.zero_le _, Nat.zero_le _⟩ dX3_refusalOfContest_2 ?_
  refine lv_if_eq (tgt := 15) hx hb dX3_refusalOfContest_5 (by decide) (fun c_5 => ?_) (fun c_5 => ?_)
  · have hf := hf.trans (if_pos c_5)
    refine lv_iconst (v := 1) hx hb dX3_refusalOfContest_15 (by decide) ?_
    exact W.iret (v := 1) hx hb hr (fun t ht hW => ⟨1, rfl, hf.symm, ht⟩) (fun _ h => by cases h) dX3_refusalOfContest_16
  · have hf := hf.trans (if_neg c_5)
    refine lv_iload_n hx hb dX3_refusalOfContest_8 rfl (lv_at hl 2 rfl) ?_
    refine hcSi (As := [.int x2]) (rest := []) ⟨hx, hb, hml, hown, hts⟩ (kX3_hasChair l x2 ) (va_cwS 1 hts gX3_refusalOfContest_X3_hasChair rfl rfl rfl (by decide +kernel) ⟨Nat.le_of_ble_eq_true rfl, Nat.le_of_ble_eq_true rfl⟩) rfl hl.1 rfl (Nat.le_of_ble_eq_true rfl) ⟨Nat.zero_le _, Nat.zero_le _⟩ dX3_refusalOfContest_9 ?_
    refine lv_if_ne (tgt := 17) hx hb dX3_refusalOfContest_12 (by decide) (fun c_12 => ?_) (fun c_12 => ?_)
    · have hf := hf.trans (if_neg c_12)
      refine lv_aload_n hx hb dX3_refusalOfContest_17 rfl (lv_at hl 0 rfl) ?_
      refine lv_iload_n hx hb dX3_refusalOfContest_18 rfl (lv_at hl 2 rfl) ?_
      refine hcRi (As := [.int x2]) (rest := []) 0 4 ⟨hx, hb, hml, hown, hts⟩ (kX3_covererAt l D ca a u x2 ) (cwV 1 hts gX3_refusalOfContest_X3_covererAt rfl rfl rfl (by decide +kernel) ⟨Nat.le_of_ble_eq_true rfl, Nat.le_of_ble_eq_true rfl⟩) hK hP rfl rfl rfl hl.1 rfl (Nat.le_of_ble_eq_true rfl) ⟨Nat.zero_le _, Nat.zero_le _⟩ dX3_refusalOfContest_19 ?_
      refine lv_iconst (v := (-1)) hx hb dX3_refusalOfContest_22 (by decide) ?_
      refine lv_icmp_ne (tgt := 28) hx hb dX3_refusalOfContest_23 (by decide) (fun c_23 => ?_) (fun c_23 => ?_)
      · have hf := hf.trans (if_neg c_23)
        refine lv_aload_n hx hb dX3_refusalOfContest_28 rfl (lv_at hl 0 rfl) ?_
        refine lv_iload_n hx hb dX3_refusalOfContest_29 rfl (lv_at hl 1 rfl) ?_
        refine hcRi (As := [.int x1]) (rest := []) 0 4 ⟨hx, hb, hml, hown, hts⟩ (kX3_hatIsPlaced l D ca a u x1 (hasGuest_in hgs c_5)) (cwV 1 hts gX3_refusalOfContest_X3_hatIsPlaced rfl rfl rfl (by decide +kernel) ⟨Nat.le_of_ble_eq_true rfl, Nat.le_of_ble_eq_true rfl⟩) hK hP rfl rfl rfl hl.1 rfl (Nat.le_of_ble_eq_true rfl) ⟨Nat.zero_le _, Nat.zero_le _⟩ dX3_refusalOfContest_30 ?_
        refine lv_if_eq (tgt := 40) hx hb dX3_refusalOfContest_33 (by decide) (fun c_33 => ?_) (fun c_33 => ?_)
        · have hf := hf.trans (if_pos c_33)
          refine lv_iconst (v := 0) hx hb dX3_refusalOfContest_40 (by decide) ?_
          exact W.iret (v := 0) hx hb hr (fun t ht hW => ⟨0, rfl, hf.symm, ht⟩) (fun _ h => by cases h) dX3_refusalOfContest_41
        · have hf := hf.trans (if_neg c_33)
          refine lv_iconst (v := 3) hx hb dX3_refusalOfContest_36 (by decide) ?_
          refine lv_goto (tgt := 41) hx hb dX3_refusalOfContest_37 (by decide) ?_
          exact W.iret (v := 3) hx hb hr (fun t ht hW => ⟨3, rfl, hf.symm, ht⟩) (fun _ h => by cases h) dX3_refusalOfContest_41
      · have hf := hf.trans (if_pos c_23)
        refine lv_iconst (v := 2) hx hb dX3_refusalOfContest_26 (by decide) ?_
        exact W.iret (v := 2) hx hb hr (fun t ht hW => ⟨2, rfl, hf.symm, ht⟩) (fun _ h => by cases h) dX3_refusalOfContest_27
    · have hf := hf.trans (if_pos c_12)
      refine lv_iconst (v := 1) hx hb dX3_refusalOfContest_15 (by decide) ?_
      exact W.iret (v := 1) hx hb hr (fun t ht hW => ⟨1, rfl, hf.symm, ht⟩) (fun _ h => by cases h) dX3_refusalOfContest_16
def fX3_refusalOfPass (u : HS) (x1 : Int32) : Int32 :=
  (if x1 < 1 then 1 else (if x1 ≤ 60 then 0 else 1))
set_option maxHeartbeats 4000000 in
set_option maxRecDepth 100000 in
/-- refusalOfPass -/
theorem kX3_refusalOfPass (l : Launch) (D : va_G) (ca : Nat → ClassId) (a : Nat → Nat) (u : HS) (x1 : Int32) : Met l yX3_refusalOfPass wsX3_refusalOfPass ({ frames := 0, cells := 0, slots := 0, locals := 0 }) (RPc D ca (HW ca a u) [.ref (a 8), .int x1]) (vp_Si (fun r => r = fX3_refusalOfPass u x1)) 0 0 (fun _ => False) := by
  refine Met.ofW (cc := cX3_refusalOfPass) (maxL := 2) (ret := (some .int)) (by decide) rfl ?_
  intro p e s m args below meth c s₁ B hml hv
  obtain ⟨rfl, hP, hK⟩ := hv
  have hx := B.exec
  have hb := B.bytes
  have hr := B.returns
  have hts := atoms_spec (ws := wsX3_refusalOfPass) B.pre
  have hown : s.vm.findClass RX3 = some m.cls := findClass_of_methodNamed B.named
  have hlocks := B.notSynchronized
  have hf : fX3_refusalOfPass u x1 = fX3_refusalOfPass u x1 := rfl
  refine W_entry (Nat.le_of_ble_eq_true rfl) (fun ls hl => ?_)
  have hl : lv_has ls 2 [(0, .ref (a 8)), (1, .int x1)] := hl
  refine lv_iload_n hx hb dX3_refusalOfPass_0 rfl (lv_at hl 1 rfl) ?_
  refine lv_iconst (v := 1) hx hb dX3_refusalOfPass_1 (by decide) ?_
  refine lv_icmp_lt (tgt := 11) hx hb dX3_refusalOfPass_2 (by decide) (fun c_2 => ?_) (fun c_2 => ?_)
  · have hf := hf.trans (if_pos c_2)
    refine lv_iconst (v := 1) hx hb dX3_refusalOfPass_11 (by decide) ?_
    refine lv_goto (tgt := 16) hx hb dX3_refusalOfPass_12 (by decide) ?_
    exact W.iret (v := 1) hx hb hr (fun t ht hW => ⟨1, rfl, hf.symm, ht⟩) (fun _ h => by cases h) dX3_refusalOfPass_16
  · have hf := hf.trans (if_neg c_2)
    refine lv_iload_n hx hb dX3_refusalOfPass_5 rfl (lv_at hl 1 rfl) ?_
    refine lv_bipush (v := 60) hx hb dX3_refusalOfPass_6 (by decide) ?_
    refine lv_icmp_le (tgt := 15) hx hb dX3_refusalOfPass_8 (by decide) (fun c_8 => ?_) (fun c_8 => ?_)
    · have hf := hf.trans (if_pos c_8)
      refine lv_iconst (v := 0) hx hb dX3_refusalOfPass_15 (by decide) ?_
      exact W.iret (v := 0) hx hb hr (fun t ht hW => ⟨0, rfl, hf.symm, ht⟩) (fun _ h => by cases h) dX3_refusalOfPass_16
    · have hf := hf.trans (if_neg c_8)
      refine lv_iconst (v := 1) hx hb dX3_refusalOfPass_11 (by decide) ?_
      refine lv_goto (tgt := 16) hx hb dX3_refusalOfPass_12 (by decide) ?_
      exact W.iret (v := 1) hx hb hr (fun t ht hW => ⟨1, rfl, hf.symm, ht⟩) (fun _ h => by cases h) dX3_refusalOfPass_16
def fX3_refusalOfSweep (u : HS) (x1 : Int32) : Int32 :=
  (if x1 < 1 then 1 else (if x1 ≤ 240 then 0 else 1))
set_option maxHeartbeats 4000000 in
set_option maxRecDepth 100000 in
/-- refusalOfSweep -/
theorem kX3_refusalOfSweep (l : Launch) (D : va_G) (ca : Nat → ClassId) (a : Nat → Nat) (u : HS) (x1 : Int32) : Met l yX3_refusalOfSweep wsX3_refusalOfSweep ({ frames := 0, cells := 0, slots := 0, locals := 0 }) (RPc D ca (HW ca a u) [.ref (a 8), .int x1]) (vp_Si (fun r => r = fX3_refusalOfSweep u x1)) 0 0 (fun _ => False) := by
  refine Met.ofW (cc := cX3_refusalOfSweep) (maxL := 2) (ret := (some .int)) (by decide) rfl ?_
  intro p e s m args below meth c s₁ B hml hv
  obtain ⟨rfl, hP, hK⟩ := hv
  have hx := B.exec
  have hb := B.bytes
  have hr := B.returns
  have hts := atoms_spec (ws := wsX3_refusalOfSweep) B.pre
  have hown : s.vm.findClass RX3 = some m.cls := findClass_of_methodNamed B.named
  have hlocks := B.notSynchronized
  have hf : fX3_refusalOfSweep u x1 = fX3_refusalOfSweep u x1 := rfl
  refine W_entry (Nat.le_of_ble_eq_true rfl) (fun ls hl => ?_)
  have hl : lv_has ls 2 [(0, .ref (a 8)), (1, .int x1)] := hl
  refine lv_iload_n hx hb dX3_refusalOfSweep_0 rfl (lv_at hl 1 rfl) ?_
  refine lv_iconst (v := 1) hx hb dX3_refusalOfSweep_1 (by decide) ?_
  refine lv_icmp_lt (tgt := 12) hx hb dX3_refusalOfSweep_2 (by decide) (fun c_2 => ?_) (fun c_2 => ?_)
  · have hf := hf.trans (if_pos c_2)
    refine lv_iconst (v := 1) hx hb dX3_refusalOfSweep_12 (by decide) ?_
    refine lv_goto (tgt := 17) hx hb dX3_refusalOfSweep_13 (by decide) ?_
    exact W.iret (v := 1) hx hb hr (fun t ht hW => ⟨1, rfl, hf.symm, ht⟩) (fun _ h => by cases h) dX3_refusalOfSweep_17
  · have hf := hf.trans (if_neg c_2)
    refine lv_iload_n hx hb dX3_refusalOfSweep_5 rfl (lv_at hl 1 rfl) ?_
    refine lv_sipush (v := 240) hx hb dX3_refusalOfSweep_6 (by decide) ?_
    refine lv_icmp_le (tgt := 16) hx hb dX3_refusalOfSweep_9 (by decide) (fun c_9 => ?_) (fun c_9 => ?_)
    · have hf := hf.trans (if_pos c_9)
      refine lv_iconst (v := 0) hx hb dX3_refusalOfSweep_16 (by decide) ?_
      exact W.iret (v := 0) hx hb hr (fun t ht hW => ⟨0, rfl, hf.symm, ht⟩) (fun _ h => by cases h) dX3_refusalOfSweep_17
    · have hf := hf.trans (if_neg c_9)
      refine lv_iconst (v := 1) hx hb dX3_refusalOfSweep_12 (by decide) ?_
      refine lv_goto (tgt := 17) hx hb dX3_refusalOfSweep_13 (by decide) ?_
      exact W.iret (v := 1) hx hb hr (fun t ht hW => ⟨1, rfl, hf.symm, ht⟩) (fun _ h => by cases h) dX3_refusalOfSweep_17
