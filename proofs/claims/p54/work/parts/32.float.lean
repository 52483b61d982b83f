/-! meanCover, coveredShare, the bits of their answers -/
section ROWFW
variable {p : Program} {l : Launch} {e : Env} {R : Room} {s : State} {m : MethodId} {args : Array Value} {below : List Frame} {meth : Method} {c : Code} {H : Heap} {locs : List Loc} {cells slots : Nat} {Q : State → Prop} {cc : ByteArray} {pc : Nat} {ls : Array Slot} {rest : List Value}
theorem lv_ldcwf (hx : p.tables.exec = Jvm.exec) (hb : c.code = cc) {own : String} {index : Nat} {v : UInt32} (hown : s.vm.findClass own = some m.cls) (hconst : (Jvm.Cond.constantFloat own index v).before args s = true) (hdg : decode cc pc = .ok (.ldc_w index, 3)) (k : W p l e R s m args below meth c H locs cells slots Q (F0 m (pc + 3) ls (.float v :: rest))) : W p l e R s m args below meth c H locs cells slots Q (F0 m pc ls rest) := by
  intro T hT X
  obtain ⟨t, a, b⟩ := k T hT X
  obtain ⟨kc, cf, hk, hcf, hcp⟩ := Cond.constantFloat_spec hown hconst
  obtain ⟨k', hk', he⟩ := X.warmed.alike.2.2 _ _ hk
  refine ⟨t, ?_, b⟩
  jvm_step X.here [X.here.top, hx, hb, hdg, ldc_w.wp_float (s := T) (f := F0 m pc ls rest) X.here.top hk' (by rw [he]; exact hcf) hcp]
  exact a
end ROWFW
/-- the head of a method of a class that has rows of its own among the natives, but none for this method -/
theorem ofWF {l : Launch} {y : MethodName} {ws ws' : List Cond} {rm : Room} {Pc : Array Value → State → Prop} {Qc : Array Value → State → Outcome → State → Prop} {mc ms : Nat} {free : Addr → Prop} {cc : ByteArray} {maxL : Nat} {ret : Option FieldType}
    (hy : plainFor y = true) (hw : ws = Cond.code y cc maxL ret :: ws')
    (body : ∀ p e s m args below meth c s₁, BodyLoose p l y (headSpec ws rm) cc maxL ret e s m args below meth c s₁ → c.maxLocals = maxL → Pc args s →
      W p l e (headSpec ws rm).room s m args below meth c s.heap [] 0 0 (MQ below Qc args s mc ms free) (entryFrame m args maxL)) : Met l y ws rm Pc Qc mc ms free := by
  refine MetFree.of_bodySF (code := cc) (maxLocals := maxL) (ret := ret) hy ?_ ?_
  · intro args s m h hn
    obtain ⟨meth, c, h1, h2, h3, h4, h5, h6, -, -⟩ := Cond.code_spec hn (atoms_spec (ws := ws) h _ (by rw [hw]; exact List.mem_cons_self))
    exact ⟨meth, c, h1, h2, h3, h4, h5, h6⟩
  · intro p e s m args below meth c s₁ B hml hP _
    have hh0 : s₁.heap = s.heap := by rw [B.state]; rfl
    obtain ⟨t, a1, o, b1, b2, b3, b4⟩ := body p e s m args below meth c s₁ B hml hP s₁ hh0 (Stand.of_body B)
    exact ⟨t, o, a1, b1, b2, b3, b4⟩
theorem nI_s (j : Nat) : nI j + 1 = nI (j + 1) := nI_add j 1
theorem cbc_4 (u : HS) : ∀ (n k j : Nat), ∃ i, i ≤ j + n ∧ fX3_countByChair_4 n k u (nI j) = nI i := by
  intro n
  induction n with
  | zero => intro k j; exact ⟨j, Nat.le_refl _, rfl⟩
  | succ n ih =>
    intro k j
    rw [fX3_countByChair_4]
    split
    · obtain ⟨i, h1, h2⟩ := ih (k + 1) j
      exact ⟨i, by omega, h2⟩
    · rw [nI_s]
      obtain ⟨i, h1, h2⟩ := ih (k + 1) (j + 1)
      exact ⟨i, by omega, h2⟩
theorem cbc_bd (u : HS) : ∃ j, j ≤ 40 ∧ fX3_countByChair u = nI j := by
  obtain ⟨i, h1, h2⟩ := cbc_4 u 40 0 0
  exact ⟨i, by omega, h2⟩
theorem cpl_4 (u : HS) : ∀ (n k j : Nat), ∃ i, i ≤ j + n ∧ fX3_countPlaced_4 n k u (nI j) = nI i := by
  intro n
  induction n with
  | zero => intro k j; exact ⟨j, Nat.le_refl _, rfl⟩
  | succ n ih =>
    intro k j
    rw [fX3_countPlaced_4]
    split
    · obtain ⟨i, h1, h2⟩ := ih (k + 1) j
      exact ⟨i, by omega, h2⟩
    · rw [nI_s]
      obtain ⟨i, h1, h2⟩ := ih (k + 1) (j + 1)
      exact ⟨i, by omega, h2⟩
theorem cpl_bd (u : HS) : ∃ j, j ≤ 8 ∧ fX3_countPlaced u = nI j := by
  obtain ⟨i, h1, h2⟩ := cpl_4 u 8 0 0
  exact ⟨i, by omega, h2⟩
def okD (x : UInt64) : Bool := decide (x &&& 0x7fffffffffffffff ≤ 0x7ff0000000000000) && decide (Op.cmpValue (FP.dcmp x x) .l = 0)
def okF (x : UInt32) : Bool := decide (x &&& 0x7fffffff ≤ 0x7f800000) && decide (Op.cmpValue (FP.fcmp x x) .l = 0)
theorem allD : ((List.range 41).all fun j => (List.range 8).all fun i => okD (FP.ddiv (FP.i2d (nI j)) (FP.i2d (nI (i + 1))))) = true := by decide +kernel
theorem allF : ((List.range 41).all fun j => okF (FP.fdiv (FP.i2f (nI j)) 1109393408)) = true := by decide +kernel
theorem okD_1 : okD 13875388141788987392 = true := by decide +kernel
theorem okD_mc {u : HS} (h : ¬ fX3_countPlaced u = 0) : okD (FP.ddiv (FP.i2d (fX3_countByChair u)) (FP.i2d (fX3_countPlaced u))) = true := by
  obtain ⟨j, h1, h2⟩ := cbc_bd u
  obtain ⟨i, h3, h4⟩ := cpl_bd u
  rw [h4] at h
  have hi : i ≠ 0 := fun z => h (by rw [z]; rfl)
  obtain ⟨i, rfl⟩ := Nat.exists_eq_succ_of_ne_zero hi
  rw [h2, h4]
  exact List.all_eq_true.mp (List.all_eq_true.mp allD j (List.mem_range.mpr (by omega))) i (List.mem_range.mpr (by omega))
theorem okF_cs (u : HS) : okF (FP.fdiv (FP.i2f (fX3_countByChair u)) 1109393408) = true := by
  obtain ⟨j, h1, h2⟩ := cbc_bd u
  rw [h2]
  exact List.all_eq_true.mp allF j (List.mem_range.mpr (by omega))
theorem okD_n {x : UInt64} (h : okD x = true) : vf_n64 x := by
  unfold okD at h
  unfold vf_n64
  exact of_decide_eq_true (Bool.and_eq_true_iff.mp h).1
theorem okD_c {x : UInt64} (h : okD x = true) : Op.cmpValue (FP.dcmp x x) .l = 0 := by
  unfold okD at h
  exact of_decide_eq_true (Bool.and_eq_true_iff.mp h).2
theorem okF_n {x : UInt32} (h : okF x = true) : vf_n32 x := by
  unfold okF at h
  unfold vf_n32
  exact of_decide_eq_true (Bool.and_eq_true_iff.mp h).1
theorem okF_c {x : UInt32} (h : okF x = true) : Op.cmpValue (FP.fcmp x x) .l = 0 := by
  unfold okF at h
  exact of_decide_eq_true (Bool.and_eq_true_iff.mp h).2
/-- the law's answer for meanCover -/
def gMC (u : HS) : UInt64 := if fX3_countPlaced u = 0 then 13875388141788987392 else FP.ddiv (FP.i2d (fX3_countByChair u)) (FP.i2d (fX3_countPlaced u))
def gCS (u : HS) : UInt32 := FP.fdiv (FP.i2f (fX3_countByChair u)) 1109393408
theorem okD_g (u : HS) : okD (gMC u) = true := by
  unfold gMC
  split
  · exact okD_1
  · rename_i h
    exact okD_mc h
set_option maxHeartbeats 4000000 in
set_option maxRecDepth 100000 in
theorem kJxe99ae_isNaN_b9ae7 (l : Launch) (x : UInt64) (h : okD x = true) : Met l yJxe99ae_isNaN_b9ae7 wsJxe99ae_isNaN_b9ae7 ({ frames := 0, cells := 0, slots := 0, locals := 0 }) (va_Pc [.double x] (fun _ => True)) (vp_Si (fun r => r = 0)) 0 0 (fun _ => False) := by
  refine ofWF (cc := cJxe99ae_isNaN_b9ae7) (maxL := 2) (ret := some .boolean) (by decide +kernel) rfl ?_
  intro p e s m args below meth c s₁ B hml hv
  obtain ⟨rfl, -⟩ := hv
  have hx := B.exec
  have hb := B.bytes
  have hr := B.returns
  have hts := atoms_spec (ws := wsJxe99ae_isNaN_b9ae7) B.pre
  have hown : s.vm.findClass RJxe99ae = some m.cls := findClass_of_methodNamed B.named
  have hlocks := B.notSynchronized
  refine W_entry (Nat.le_of_ble_eq_true rfl) (fun ls hl => ?_)
  have hl : lv_has ls 2 [(0, .double x)] := hl
  refine lv_dload_n hx hb dJxe99ae_isNaN_b9ae7_0 rfl (lv_at hl 0 rfl) ?_
  refine lv_dload_n hx hb dJxe99ae_isNaN_b9ae7_1 rfl (lv_at hl 0 rfl) ?_
  refine lv_dcmp hx hb dJxe99ae_isNaN_b9ae7_2 ?_
  refine lv_if_eq (tgt := 10) hx hb dJxe99ae_isNaN_b9ae7_3 (by decide) (fun _ => ?_) (fun q => absurd (okD_c h) q)
  refine lv_iconst (v := 0) hx hb dJxe99ae_isNaN_b9ae7_10 (by decide) ?_
  exact W.zret (ty := .boolean) (v := 0) hx hb hr (by decide) (fun t ht hW => ⟨0, rfl, rfl, ht⟩) (fun _ h => by cases h) dJxe99ae_isNaN_b9ae7_11
set_option maxHeartbeats 4000000 in
set_option maxRecDepth 100000 in
theorem kJxe99ae_doubleToLongBits_ccdee (l : Launch) (x : UInt64) (h : okD x = true) : Met l yJxe99ae_doubleToLongBits_ccdee wsJxe99ae_doubleToLongBits_ccdee ({ frames := 1, cells := 0, slots := 0, locals := 21 }) (va_Pc [.double x] (fun _ => True)) (vp_Sl (fun r => r = x.toInt64)) 0 0 (fun _ => False) := by
  refine ofWF (cc := cJxe99ae_doubleToLongBits_ccdee) (maxL := 2) (ret := some .long) (by decide +kernel) rfl ?_
  intro p e s m args below meth c s₁ B hml hv
  obtain ⟨rfl, -⟩ := hv
  have hx := B.exec
  have hb := B.bytes
  have hr := B.returns
  have hts := atoms_spec (ws := wsJxe99ae_doubleToLongBits_ccdee) B.pre
  have hown : s.vm.findClass RJxe99ae = some m.cls := findClass_of_methodNamed B.named
  have hlocks := B.notSynchronized
  refine W_entry (Nat.le_of_ble_eq_true rfl) (fun ls hl => ?_)
  have hl : lv_has ls 2 [(0, .double x)] := hl
  refine lv_dload_n hx hb dJxe99ae_doubleToLongBits_ccdee_0 rfl (lv_at hl 0 rfl) ?_
  refine hcSi (v := 0) (As := [.double x]) (rest := []) ⟨hx, hb, hml, hown, hts⟩ (kJxe99ae_isNaN_b9ae7 l x h) (va_cwS 1 hts gJxe99ae_doubleToLongBits_ccdee_Jxe99ae_isNaN_b9ae7 rfl rfl rfl (by decide +kernel) ⟨Nat.le_of_ble_eq_true rfl, Nat.le_of_ble_eq_true rfl⟩) rfl hl.1 rfl (Nat.le_of_ble_eq_true rfl) ⟨Nat.le_of_ble_eq_true rfl, Nat.le_of_ble_eq_true rfl⟩ dJxe99ae_doubleToLongBits_ccdee_1 ?_
  refine lv_if_ne (tgt := 12) hx hb dJxe99ae_doubleToLongBits_ccdee_4 (by decide) (fun q => absurd rfl q) (fun _ => ?_)
  refine lv_dload_n hx hb dJxe99ae_doubleToLongBits_ccdee_7 rfl (lv_at hl 0 rfl) ?_
  refine vn_d2l hx hb (by rw [hml]; exact hl.1.symm) hown (hts (.methodLink RJxe99ae 134 ⟨"java/lang/Double", "doubleToRawLongBits", "(D)J"⟩) (by decide +kernel)) (hts (.native ⟨"java/lang/Double", "doubleToRawLongBits", "(D)J"⟩) (by decide +kernel)) (hts (.static ⟨"java/lang/Double", "doubleToRawLongBits", "(D)J"⟩) (by decide +kernel)) (hts (.initialized "java/lang/Double") (by decide +kernel)) (Nat.le_of_ble_eq_true rfl) (Nat.le_of_ble_eq_true rfl) dJxe99ae_doubleToLongBits_ccdee_8 ?_
  exact W.lret hx hb hr (fun t ht hW => ⟨_, rfl, rfl, ht⟩) (fun _ h => by cases h) dJxe99ae_doubleToLongBits_ccdee_11
set_option maxHeartbeats 4000000 in
set_option maxRecDepth 100000 in
theorem kJxf58ca_isNaN_12338 (l : Launch) (x : UInt32) (h : okF x = true) : Met l yJxf58ca_isNaN_12338 wsJxf58ca_isNaN_12338 ({ frames := 0, cells := 0, slots := 0, locals := 0 }) (va_Pc [.float x] (fun _ => True)) (vp_Si (fun r => r = 0)) 0 0 (fun _ => False) := by
  refine ofWF (cc := cJxf58ca_isNaN_12338) (maxL := 1) (ret := some .boolean) (by decide +kernel) rfl ?_
  intro p e s m args below meth c s₁ B hml hv
  obtain ⟨rfl, -⟩ := hv
  have hx := B.exec
  have hb := B.bytes
  have hr := B.returns
  have hts := atoms_spec (ws := wsJxf58ca_isNaN_12338) B.pre
  have hown : s.vm.findClass RJxf58ca = some m.cls := findClass_of_methodNamed B.named
  have hlocks := B.notSynchronized
  refine W_entry (Nat.le_of_ble_eq_true rfl) (fun ls hl => ?_)
  have hl : lv_has ls 1 [(0, .float x)] := hl
  refine lv_fload_n hx hb dJxf58ca_isNaN_12338_0 rfl (lv_at hl 0 rfl) ?_
  refine lv_fload_n hx hb dJxf58ca_isNaN_12338_1 rfl (lv_at hl 0 rfl) ?_
  refine lv_fcmp hx hb dJxf58ca_isNaN_12338_2 ?_
  refine lv_if_eq (tgt := 10) hx hb dJxf58ca_isNaN_12338_3 (by decide) (fun _ => ?_) (fun q => absurd (okF_c h) q)
  refine lv_iconst (v := 0) hx hb dJxf58ca_isNaN_12338_10 (by decide) ?_
  exact W.zret (ty := .boolean) (v := 0) hx hb hr (by decide) (fun t ht hW => ⟨0, rfl, rfl, ht⟩) (fun _ h => by cases h) dJxf58ca_isNaN_12338_11
set_option maxHeartbeats 4000000 in
set_option maxRecDepth 100000 in
theorem kJxf58ca_floatToIntBits_5c35a (l : Launch) (x : UInt32) (h : okF x = true) : Met l yJxf58ca_floatToIntBits_5c35a wsJxf58ca_floatToIntBits_5c35a ({ frames := 1, cells := 0, slots := 0, locals := 21 }) (va_Pc [.float x] (fun _ => True)) (vp_Si (fun r => r = x.toInt32)) 0 0 (fun _ => False) := by
  refine ofWF (cc := cJxf58ca_floatToIntBits_5c35a) (maxL := 1) (ret := some .int) (by decide +kernel) rfl ?_
  intro p e s m args below meth c s₁ B hml hv
  obtain ⟨rfl, -⟩ := hv
  have hx := B.exec
  have hb := B.bytes
  have hr := B.returns
  have hts := atoms_spec (ws := wsJxf58ca_floatToIntBits_5c35a) B.pre
  have hown : s.vm.findClass RJxf58ca = some m.cls := findClass_of_methodNamed B.named
  have hlocks := B.notSynchronized
  refine W_entry (Nat.le_of_ble_eq_true rfl) (fun ls hl => ?_)
  have hl : lv_has ls 1 [(0, .float x)] := hl
  refine lv_fload_n hx hb dJxf58ca_floatToIntBits_5c35a_0 rfl (lv_at hl 0 rfl) ?_
  refine hcSi (v := 0) (As := [.float x]) (rest := []) ⟨hx, hb, hml, hown, hts⟩ (kJxf58ca_isNaN_12338 l x h) (va_cwS 1 hts gJxf58ca_floatToIntBits_5c35a_Jxf58ca_isNaN_12338 rfl rfl rfl (by decide +kernel) ⟨Nat.le_of_ble_eq_true rfl, Nat.le_of_ble_eq_true rfl⟩) rfl hl.1 rfl (Nat.le_of_ble_eq_true rfl) ⟨Nat.le_of_ble_eq_true rfl, Nat.le_of_ble_eq_true rfl⟩ dJxf58ca_floatToIntBits_5c35a_1 ?_
  refine lv_if_ne (tgt := 12) hx hb dJxf58ca_floatToIntBits_5c35a_4 (by decide) (fun q => absurd rfl q) (fun _ => ?_)
  refine lv_fload_n hx hb dJxf58ca_floatToIntBits_5c35a_7 rfl (lv_at hl 0 rfl) ?_
  refine vn_f2i hx hb (by rw [hml]; exact hl.1.symm) hown (hts (.methodLink RJxf58ca 74 ⟨"java/lang/Float", "floatToRawIntBits", "(F)I"⟩) (by decide +kernel)) (hts (.native ⟨"java/lang/Float", "floatToRawIntBits", "(F)I"⟩) (by decide +kernel)) (hts (.static ⟨"java/lang/Float", "floatToRawIntBits", "(F)I"⟩) (by decide +kernel)) (hts (.initialized "java/lang/Float") (by decide +kernel)) (Nat.le_of_ble_eq_true rfl) (Nat.le_of_ble_eq_true rfl) dJxf58ca_floatToIntBits_5c35a_8 ?_
  exact W.iret hx hb hr (fun t ht hW => ⟨_, rfl, rfl, ht⟩) (fun _ h => by cases h) dJxf58ca_floatToIntBits_5c35a_11
set_option maxHeartbeats 4000000 in
set_option maxRecDepth 100000 in
theorem kX5_coveredShare (l : Launch) (D : va_G) (ca : Nat → ClassId) (en ks vs : Nat → Nat) (ai : Nat → Nat → Nat) (ad bd : Nat → Nat) (u : OS) : Met l yX5_coveredShare wsX5_coveredShare ({ frames := 2, cells := 0, slots := 0, locals := 44 }) (RPc D ca (OW ca en ai ad bd u) [.ref (ad 0)]) (vp_Sf (fun r => r = gCS (og0 u))) 0 0 (fun _ => False) := by
  refine Met.ofW (cc := cX5_coveredShare) (maxL := 1) (ret := some .float) (by decide) rfl ?_
  intro p e s m args below meth c s₁ B hml hv
  obtain ⟨rfl, hP, hK⟩ := hv
  have hx := B.exec
  have hb := B.bytes
  have hr := B.returns
  have hts := atoms_spec (ws := wsX5_coveredShare) B.pre
  have hown : s.vm.findClass RX5 = some m.cls := findClass_of_methodNamed B.named
  have hlocks := B.notSynchronized
  have hin : ∀ w ∈ wsX50, w ∈ wsX5_coveredShare := by decide +kernel
  refine W_entry (Nat.le_of_ble_eq_true rfl) (fun ls hl => ?_)
  have hl : lv_has ls 1 [(0, .ref (ad 0))] := hl
  refine lv_aload_n hx hb dX5_coveredShare_0 rfl (lv_at hl 0 rfl) ?_
  refine va_get (D := D) (ci := 6) (v := .ref (ai 9 8)) (C := RX5) (T := TX5) (N := 10) hx hb hts hin hown hK hP 0 rfl rfl 0 (by decide) (hts (.fieldLink RX5 10 "HatReservations" "hall" "LHatReservations$Hall;") (by decide +kernel)) (fun _ h9 => h9) rfl dX5_coveredShare_1 ?_
  refine hcRi (As := []) (rest := []) 0 4 ⟨hx, hb, hml, hown, hts⟩ (kX3_countByChair l D ca (ai 9) (og0 u)) (cwV 0 hts gX5_coveredShare_X3_countByChair rfl rfl rfl (by decide +kernel) ⟨Nat.le_of_ble_eq_true rfl, Nat.le_of_ble_eq_true rfl⟩) hK (OP_hall hP) rfl rfl rfl hl.1 rfl (Nat.le_of_ble_eq_true rfl) ⟨Nat.le_of_ble_eq_true rfl, Nat.le_of_ble_eq_true rfl⟩ dX5_coveredShare_4 ?_
  refine lv_i2f hx hb dX5_coveredShare_7 ?_
  refine lv_ldcwf hx hb hown (hts (.constantFloat RX5 332 (1109393408)) (by decide +kernel)) dX5_coveredShare_8 ?_
  refine lv_fdiv hx hb dX5_coveredShare_11 (okF_n (okF_cs _)) ?_
  exact W.fret hx hb hr (fun t ht hW => ⟨_, rfl, rfl, ht⟩) (fun _ h => by cases h) dX5_coveredShare_12
def fX5_meanCover (u : OS) : Nat × UInt64 × OS :=
  (if (fX3_countPlaced (og0 u)) = 0 then (1, 0, u) else (0, FP.ddiv (FP.i2d (fX3_countByChair (og0 u))) (FP.i2d (fX3_countPlaced (og0 u))), u))
set_option maxHeartbeats 4000000 in
set_option maxRecDepth 100000 in
/-- meanCover -/
theorem kX5_meanCover (l : Launch) (hfl : l.stackTraces = false) (D : va_G) (ca : Nat → ClassId) (en ks vs : Nat → Nat) (ai : Nat → Nat → Nat) (ad bd : Nat → Nat) (sz : Nat) (u : OS) (hoi : OI u) : vx_Met l yX5_meanCover wsX5_meanCover ({ frames := 6, cells := 2, slots := 12, locals := 82 }) (MGPc D ca (HX en ks vs) sz (OW ca en ai ad bd u) [.ref (ad 0)]) (va_Qd (fun r v => ((0 : Nat), r, v) = fX5_meanCover u) (MB D ca (va_A (OW ca en ai ad bd u) sz) (fun v => OW ca en ai ad bd v)) (va_A (OW ca en ai ad bd u) sz)) (vx_X (fun _ : Nat × OS => True) (XB D ["java/lang/ArithmeticException"] ((fX5_meanCover u).1, 0, (fX5_meanCover u).2.2) (va_A (OW ca en ai ad bd u) sz) (fun v => OW ca en ai ad bd v)) (va_A (OW ca en ai ad bd u) sz)) 2 12 (va_A (OW ca en ai ad bd u) sz) := by
  refine vx_ofW (cc := cX5_meanCover) (maxL := 2) (ret := (some .double)) (by decide) rfl ?_
  intro p e s m args below meth c s₁ B hml hxt hv
  obtain ⟨rfl, hsz, hP, hK, hD0, hX⟩ := hv
  have hx := B.exec
  have hb := B.bytes
  have hr := B.returns
  have hts := atoms_spec (ws := wsX5_meanCover) B.pre
  have hown : s.vm.findClass RX5 = some m.cls := findClass_of_methodNamed B.named
  have hlocks := B.notSynchronized
  have hin5 : ∀ w ∈ wsX50, w ∈ wsX5_meanCover := by decide +kernel
  have hin3 : ∀ w ∈ wsX30, w ∈ wsX5_meanCover := by decide +kernel
  have hin := hin5
  subst hsz
  have hD := hD0.self (sz := s.heap.size)
  generalize hAe : va_A (OW ca en ai ad bd u) s.heap.size = A at hD hX ⊢
  have hA : ∀ q : Nat, s.heap.size ≤ q → A q := fun q h => by rw [← hAe]; exact Or.inr h
  have hS : va_S A s.heap s.heap [] := va_S.rf
  have hf : fX5_meanCover u = fX5_meanCover u := rfl
  refine W_entry (Nat.le_of_ble_eq_true rfl) (fun ls hl => ?_)
  have hl : lv_has ls 2 [(0, .ref (ad 0))] := hl
  refine lv_aload_n hx hb dX5_meanCover_0 rfl (lv_at hl 0 rfl) ?_
  refine va_get (D := D) (ci := 6) (v := .ref (ai 9 8)) (C := RX5) (T := TX5) (N := 10) hx hb hts hin hown hK hP 0 rfl rfl 0 (by decide) (hts (.fieldLink RX5 10 "HatReservations" "hall" "LHatReservations$Hall;") (by decide +kernel)) (fun _ h9 => h9) rfl dX5_meanCover_1 ?_
  refine hcRi (As := []) (rest := []) 0 4 ⟨hx, hb, hml, hown, hts⟩ (kX3_countPlaced l D ca (ai 9) (og0 u)  ) (cwV 0 hts gX5_meanCover_X3_countPlaced rfl rfl rfl (by decide +kernel) ⟨Nat.le_of_ble_eq_true rfl, Nat.le_of_ble_eq_true rfl⟩) hK (OP_hall hP) rfl rfl rfl hl.1 rfl (Nat.le_of_ble_eq_true rfl) ⟨Nat.le_of_ble_eq_true rfl, Nat.le_of_ble_eq_true rfl⟩ dX5_meanCover_4 ?_
  refine lv_istore_n (lv' := [(1, .int (fX3_countPlaced (og0 u))), (0, .ref (ad 0))]) hx hb dX5_meanCover_7 rfl hl (by decide) rfl (fun ls hl => ?_)
  refine lv_iload_n hx hb dX5_meanCover_8 rfl (lv_at hl 0 rfl) ?_
  refine lv_if_ne (tgt := 22) hx hb dX5_meanCover_9 (by decide) (fun c_9 => ?_) (fun c_9 => ?_)
  · have hf := hf.trans (if_neg c_9)
    refine lv_aload_n hx hb dX5_meanCover_22 rfl (lv_at hl 1 rfl) ?_
    refine va_get (D := D) (ci := 6) (v := .ref (ai 9 8)) (C := RX5) (T := TX5) (N := 10) hx hb hts hin hown hK hP 0 rfl rfl 0 (by decide) (hts (.fieldLink RX5 10 "HatReservations" "hall" "LHatReservations$Hall;") (by decide +kernel)) (fun _ h9 => h9) rfl dX5_meanCover_23 ?_
    refine hcRi (As := []) (rest := []) 0 4 ⟨hx, hb, hml, hown, hts⟩ (kX3_countByChair l D ca (ai 9) (og0 u)  ) (cwV 0 hts gX5_meanCover_X3_countByChair rfl rfl rfl (by decide +kernel) ⟨Nat.le_of_ble_eq_true rfl, Nat.le_of_ble_eq_true rfl⟩) hK (OP_hall hP) rfl rfl rfl hl.1 rfl (Nat.le_of_ble_eq_true rfl) ⟨Nat.le_of_ble_eq_true rfl, Nat.le_of_ble_eq_true rfl⟩ dX5_meanCover_26 ?_
    refine lv_i2d hx hb dX5_meanCover_29 ?_
    refine lv_iload_n hx hb dX5_meanCover_30 rfl (lv_at hl 0 rfl) ?_
    refine lv_i2d hx hb dX5_meanCover_31 ?_
    refine lv_ddiv hx hb dX5_meanCover_32 (okD_n (okD_mc c_9)) ?_
    refine vx_ret (W.widen (k := 2) (n := 12) (Nat.le_of_ble_eq_true rfl) (Nat.le_of_ble_eq_true rfl) ?_)
    exact W.dret (v := FP.ddiv (FP.i2d (fX3_countByChair (og0 u))) (FP.i2d (fX3_countPlaced (og0 u)))) hx hb hr (fun t ht hW => ⟨⟨FP.ddiv (FP.i2d (fX3_countByChair (og0 u))) (FP.i2d (fX3_countPlaced (og0 u))), u, rfl, hf.symm, by rw [ht]; exact hP, va_K.moved hW.alike hK, hD⟩, hS.F ht⟩) hS.2.2 dX5_meanCover_33
  · have hf := hf.trans (if_pos c_9)
    exact thrARE (is := 221) (text := "no hat is placed") hx hb hfl hown (hts (.classLink RX5 329 "java/lang/ArithmeticException") (by decide +kernel)) (hts (.initialized "java/lang/ArithmeticException") (by decide +kernel)) (fun w hw => hts w (List.mem_cons_of_mem _ (List.mem_append_left _ (List.mem_append_right _ hw)))) hX (by decide +kernel) hS (by rw [hml]; exact hl.1) dX5_meanCover_12 dX5_meanCover_15 dX5_meanCover_16 dX5_meanCover_18 dX5_meanCover_21 hxt (Nat.le_of_ble_eq_true rfl) (Nat.le_of_ble_eq_true rfl) (Nat.le_of_ble_eq_true rfl) (Nat.le_of_ble_eq_true rfl) hlocks (fun t hAl h1 h2 => xc_T (w := u) (k := 1) 0 rfl rfl (by rw [hf]) hP hD hS h1 h2) hS.2.2 (Nat.le_of_ble_eq_true rfl) (Nat.le_of_ble_eq_true rfl)
theorem mean_1 {u : OS} (h : (fX5_meanCover u).1 = 1) : gMC (og0 u) = 13875388141788987392 ∧ (fX5_meanCover u).2.2 = u := by
  unfold fX5_meanCover at h ⊢
  unfold gMC
  split at h
  · rename_i c; rw [if_pos c, if_pos c]; exact ⟨rfl, rfl⟩
  · exact absurd (show (0 : Nat) = 1 from h) (by decide)
theorem mean_0 {u z : OS} {r : UInt64} (h : ((0 : Nat), r, z) = fX5_meanCover u) : gMC (og0 u) = r ∧ z = u := by
  unfold fX5_meanCover at h
  unfold gMC
  split at h
  · exact absurd (show (0 : Nat) = 1 from congrArg Prod.fst h) (by decide)
  · rename_i c; rw [if_neg c]; cases h; exact ⟨rfl, rfl⟩
set_option maxHeartbeats 4000000 in
set_option maxRecDepth 100000 in
theorem kL_meanCover (l : Launch) (hfl : l.stackTraces = false) (D : va_G) (ca : Nat → ClassId) (en ks vs : Nat → Nat) (ai : Nat → Nat → Nat) (ad bd : Nat → Nat) (sz : Nat) (u : OS) (hoi : OI u) : Met l yL_meanCover wsL_meanCover ({ frames := 7, cells := 2, slots := 12, locals := 103 }) (MGPc D ca (HX en ks vs) sz (OW ca en ai ad bd u) [.ref (ad 0)]) (va_Qd (fun r v => (r, v) = (gMC (og0 u), u)) (MB D ca (va_A (OW ca en ai ad bd u) sz) (fun v => OW ca en ai ad bd v)) (va_A (OW ca en ai ad bd u) sz)) 2 12 (va_A (OW ca en ai ad bd u) sz) := by
  refine vx_only (vx_ofWH (cc := cL_meanCover) (maxL := 2) (ret := some .double) (hh := [(0, 4, 5, 138)]) (by decide) rfl ?_)
  intro p e s m args below meth c s₁ B hml hv
  obtain ⟨rfl, hsz, hP, hK, hD0, hX⟩ := hv
  have hx := B.exec
  have hb := B.bytes
  have hr := B.returns
  have hts := atoms_spec (ws := wsL_meanCover) B.pre
  have hown : s.vm.findClass RL = some m.cls := findClass_of_methodNamed B.named
  have hlocks := B.notSynchronized
  have htab : c.exceptionTable.toList = tableOf [(0, 4, 5, 138)] := vx_table (x := yL_meanCover) B (hts (.codeWith yL_meanCover cL_meanCover 2 (some .double) [(0, 4, 5, 138)]) List.mem_cons_self)
  subst hsz
  have hD := hD0.self (sz := s.heap.size)
  generalize hAe : va_A (OW ca en ai ad bd u) s.heap.size = A at hD hX ⊢
  have hA : ∀ q : Nat, s.heap.size ≤ q → A q := fun q h => by rw [← hAe]; exact Or.inr h
  have hS : va_S A s.heap s.heap [] := va_S.rf
  refine W_entry (Nat.le_of_ble_eq_true rfl) (fun ls hl => ?_)
  have hl : lv_has ls 2 [(0, .ref (ad 0))] := hl
  refine lv_aload_n hx hb dL_meanCover_0 rfl (lv_at hl 0 rfl) ?_
  have hF := J_free (wr := []) (wc := OW ca en ai ad bd u) (List.Perm.refl _) hD hS hA
  refine vx_calld (vx_runV (As := []) (rest := []) ⟨hx, hb, hml, hown, hts⟩ (kX5_meanCover l hfl D ca en ks vs ai ad bd _ u hoi) (cwV 0 hts gL_meanCover_X5_meanCover rfl rfl rfl (by decide +kernel) ⟨Nat.le_of_ble_eq_true rfl, Nat.le_of_ble_eq_true rfl⟩) ⟨MGPc_blind (HX_ok en ks vs), P_recv hK hP (q0 := 0) (ci := 6) rfl rfl, fun U hU hW => ⟨rfl, by rw [hU], by rw [hU]; exact hP, va_K.moved hW.alike hK, hD.weaken (fun _ _ _ _ => trivial), X_at (HX_ok en ks vs) hX hS hF hU hW⟩⟩ rfl rfl hl.1 rfl (lv_room (Nat.le_of_ble_eq_true rfl)) dL_meanCover_1 ⟨Nat.le_of_ble_eq_true rfl, Nat.le_of_ble_eq_true rfl⟩) hS (fun q _ h => hF q h) hF (fun q _ h => hF q h) (fun E ce q9 z t H locs ht hvm hpx hB hz hk hS h5 h6 h7 => ?_) (fun r z t H locs ht hvm hw hB hz hk hS => ?_)
  · obtain ⟨⟨i, hi, hz9⟩, hzF, hP, hD⟩ := hB
    rw [ht] at hP
    have hlt : i < 1 := (List.getElem?_eq_some_iff.mp hi).1
    obtain rfl : i = 0 := by omega
    cases hi
    have e1 : z.1 = (fX5_meanCover u).1 := congrArg Prod.fst hzF
    have e2 : z.2 = (fX5_meanCover u).2.2 := congrArg (fun q => q.2.2) hzF
    obtain ⟨f1, f2⟩ := mean_1 (e1.symm.trans hz9)
    rw [e2, f2] at hP hD
    rw [hAe] at hD
    refine vx_catch (name := "java/lang/ArithmeticException") hown [] ⟨0, 4, 5, 138⟩ [] htab (fun z hz => by cases hz) rfl (by decide) (hts (.classLink RL 138 "java/lang/ArithmeticException") (by decide +kernel)) (va_Nw.use rfl (hX.2.2.2.1 "java/lang/ArithmeticException" (by decide +kernel))) h5 h6 h7 ?_
    refine lv_astore_n (lv' := [(1, .ref q9), (0, .ref (ad 0))]) hx hb dL_meanCover_5 rfl hl (by decide) rfl (fun ls hl => ?_)
    refine lv_ldc2d hx hb hown (hts (.constantDouble RL 140 (13875388141788987392)) (by decide +kernel)) dL_meanCover_6 ?_
    exact vx_ret (W.dret hx hb hr (fun t ht hW => ⟨⟨_, _, rfl, by rw [← f1], by rw [ht]; exact hP, va_K.moved hW.alike hK, hD⟩, hS.F ht⟩) hS.2.2 dL_meanCover_9)
  · obtain ⟨hP, -, hD⟩ := hB
    rw [ht] at hP
    obtain ⟨f1, f2⟩ := mean_0 hw
    rw [f2] at hP hD
    rw [hAe] at hD
    exact vx_ret (W.dret hx hb hr (fun t ht hW => ⟨⟨_, _, rfl, by rw [← f1], by rw [ht]; exact hP, va_K.moved hW.alike hK, hD⟩, hS.F ht⟩) hS.2.2 dL_meanCover_4)
